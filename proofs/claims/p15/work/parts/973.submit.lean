/-! class and reference: where a job goes that is submitted -/
section SUB
variable {n : Int} {B : Nat} {KMv : KM} {K : KX} {j t w q e x0 g : Nat} {u v : gS}
theorem Pl_new' {y : Nat} (hw : w < 5) (e3 : sI v 3 = iN w) (hy : y < j) (h0 : sA v 4 y = 0) : Pl j v (mNew v w y) := by
  rw [mNew_eq]
  exact Pl_new hw e3 hy h0
theorem mNew_4 (v : gS) (w y i : Nat) : sA (mNew v w y) 4 i = sA (tA v 4 y 2) 4 i := by
  rw [mNew_eq]
  show sA (tA (tA (tA (tI (mNewB v w) 5 _) 9 w (iN y)) 10 w _) 4 y 2) 4 i = _
  by_cases hi : i = y
  · rw [hi, tA_eq, tA_eq]
  · rw [tA_ne hi, tA_ne hi]; rfl
theorem mWork_4 (v : gS) (k y i : Nat) : sA (mWork v k y) 4 i = sA (tA v 4 y 2) 4 i := by
  show sA (tA (tA (tA v 9 k (iN y)) 10 k _) 4 y 2) 4 i = _
  by_cases hi : i = y
  · rw [hi, tA_eq, tA_eq]
  · rw [tA_ne hi, tA_ne hi]; rfl
theorem mEnq_4 (v : gS) (k y i : Nat) : sA (mEnq v k y) 4 i = sA (tA v 4 y 1) 4 i := by
  show sA (tA (tI (tB (tA v 11 k (iN y)) 1 k (sD v 0)) 6 (iN (k + 1))) 4 y 1) 4 i = _
  by_cases hi : i = y
  · rw [hi, tA_eq, tA_eq]
  · rw [tA_ne hi, tA_ne hi]; rfl
/-- a worker does it -/
def Bs (v : gS) (i : Nat) : Prop := ∃ w k, w ≤ 5 ∧ sI v 3 = iN w ∧ k < w ∧ sA v 9 k = iN i
/-- the workers keep their names, a new one's is not below the number of names -/
def Nm (v v' : gS) : Prop := sI v 4 ≤ sI v' 4 ∧ ∃ w w', w ≤ w' ∧ w' ≤ 5 ∧ sI v 3 = iN w ∧ sI v' 3 = iN w' ∧ (∀ i, i < w → sA v' 8 i = sA v 8 i) ∧ (∀ i, w ≤ i → i < w' → sI v 4 ≤ sA v' 8 i)
theorem Nm.trans {a b c : gS} (h1 : Nm a b) (h2 : Nm b c) : Nm a c := by
  obtain ⟨l1, w1, w2, o1, p1, e1, e2, s1, n1⟩ := h1
  obtain ⟨l2, w3, w4, o2, p2, e3, e4, s2, n2⟩ := h2
  have hw : w2 = w3 := (iN_inj (by omega) (by omega)).mp (e2.symm.trans e3)
  subst hw
  refine ⟨Int32.le_trans l1 l2, w1, w4, by omega, p2, e1, e4, fun i hi => (s2 i (by omega)).trans (s1 i hi), fun i hi hi2 => ?_⟩
  by_cases h : i < w2
  · rw [s2 i h]; exact n1 i hi h
  · exact Int32.le_trans l1 (n2 i (by omega) hi2)
def Sc0 (v v' : gS) : Prop := sI v' 0 = sI v 0 ∧ sI v' 2 = sI v 2 ∧ Nm v v'
theorem Sc0.trans {a b c : gS} (h1 : Sc0 a b) (h2 : Sc0 b c) : Sc0 a c := ⟨h2.1.trans h1.1, h2.2.1.trans h1.2.1, h1.2.2.trans h2.2.2⟩
theorem Sc0_r {v v' : gS} {w : Nat} (hw : w ≤ 5) (e3 : sI v 3 = iN w) (h : sI v' 0 = sI v 0 ∧ sI v' 2 = sI v 2 ∧ sI v' 4 = sI v 4 ∧ sI v' 3 = sI v 3 ∧ ∀ i, sA v' 8 i = sA v 8 i) : Sc0 v v' :=
  ⟨h.1, h.2.1, by rw [h.2.2.1]; exact Int32.le_refl _, w, w, Nat.le_refl _, hw, e3, h.2.2.2.1.trans e3, fun i _ => h.2.2.2.2 i, fun i a b => by omega⟩
/-- workers and queue stay -/
def Sm (v v' : gS) : Prop := (∀ i, sA v' 9 i = sA v 9 i) ∧ sI v' 3 = sI v 3 ∧ sI v' 6 = sI v 6
/-- the class's row of workers stays -/
def Qw (u u' : gS) : Prop := ∀ i, sQ u' 0 i = sQ u 0 i
theorem Qw.trans {a b c : gS} (h1 : Qw a b) (h2 : Qw b c) : Qw a c := fun i => (h2 i).trans (h1 i)
/-- another's state stays, or it falls out of the queue; and no other gets a worker -/
def Nq (y : Nat) (v v' : gS) : Prop := Sc0 v v' ∧ ∀ i, i < 24 → i ≠ y → (sA v' 4 i = sA v 4 i ∨ (sA v 4 i = 1 ∧ sA v' 4 i = 5)) ∧ (Bs v' i → Bs v i)
theorem Bs_same {v v' : gS} {i : Nat} (e3 : sI v' 3 = sI v 3) (e9 : ∀ i, sA v' 9 i = sA v 9 i) (h : Bs v' i) : Bs v i := by
  obtain ⟨w, k, a, b, c, d⟩ := h
  exact ⟨w, k, a, by rw [← e3]; exact b, c, by rw [← e9]; exact d⟩
theorem Nq_same {v v' : gS} {y : Nat} (e4 : ∀ i, i ≠ y → sA v' 4 i = sA v 4 i) (e3 : sI v' 3 = sI v 3) (e9 : ∀ i, sA v' 9 i = sA v 9 i) (e0 : Sc0 v v') : Nq y v v' := ⟨e0, fun i _ hy => ⟨Or.inl (e4 i hy), Bs_same e3 e9⟩⟩
theorem Nq_work {v : gS} {k w y : Nat} (hw : w ≤ 5) (e3 : sI v 3 = iN w) (hy : y < 24) : Nq y v (mWork v k y) := by
  refine ⟨Sc0_r hw e3 ⟨rfl, rfl, rfl, rfl, fun _ => rfl⟩, fun i hi hiy => ?_⟩
  refine ⟨Or.inl (by rw [mWork_4, tA_ne hiy]), fun z => ?_⟩
  obtain ⟨w', k', a, b, c, d⟩ := z
  have d' : sA (tA v 9 k (iN y)) 9 k' = iN i := d
  by_cases hk : k' = k
  · rw [hk, tA_eq] at d'
    exact absurd ((iN_inj (by omega) (by omega)).mp d').symm hiy
  · rw [tA_ne hk] at d'
    exact ⟨w', k', a, b, c, d'⟩
theorem Nq_new {v : gS} {w y c : Nat} (hw : w < 5) (e3 : sI v 3 = iN w) (hy : y < 24) (e4 : sI v 4 = iN c) (hc : c < 2147483647) : Nq y v (mNew v w y) := by
  refine ⟨by
    rw [mNew_eq]
    refine ⟨rfl, rfl, ?_, w, w + 1, by omega, by omega, e3, rfl, fun i hi => ?_, fun i hi hi2 => ?_⟩
    · show sI v 4 ≤ sI v 4 + 1
      rw [e4, iN_succ]; exact (iN_le (by omega) (by omega)).mpr (by omega)
    · show sA (tA v 8 w (sI v 4)) 8 i = _
      rw [tA_ne (by omega)]
    · show sI v 4 ≤ sA (tA v 8 w (sI v 4)) 8 i
      rw [show i = w by omega, tA_eq]; exact Int32.le_refl _, fun i hi hiy => ?_⟩
  refine ⟨Or.inl (by rw [mNew_4, tA_ne hiy]), fun z => ?_⟩
  rw [mNew_eq] at z
  obtain ⟨w', k', a, b, c, d⟩ := z
  have b' : iN (w + 1) = iN w' := b
  have hww : w + 1 = w' := (iN_inj (by omega) (by omega)).mp b'
  have d' : sA (tA v 9 w (iN y)) 9 k' = iN i := d
  by_cases hk : k' = w
  · rw [hk, tA_eq] at d'
    exact absurd ((iN_inj (by omega) (by omega)).mp d').symm hiy
  · rw [tA_ne hk] at d'
    exact ⟨w, k', by omega, e3, by omega, d'⟩
/-- it has its place, on both sides; or (POLICY 3) it is to be performed at once -/
def JP (n : Int) (B : Nat) (KMv : KM) (K : KX) (j t e x0 g : Nat) (u v : gS) (y d : Nat) : Prop :=
  (∃ u' v' w' q', (∀ f (post : gS → Prop), post u' → wpX0_admitF K (wpX0_admit f) post u (aA K y) (iN d)) ∧ (∀ post : Int32 → gS → Prop, post 0 v' → wpM6_place KMv post v (iN y)) ∧ RR n B KMv K j t w' q' e 24 x0 g u' v' ∧ Pl j v v' ∧ St v v' ∧ sA v' 4 y ≠ 0 ∧ sI v' 8 = sI v 8 ∧ Nq y v v' ∧ (sI v 2 ≠ 0 → Sm v v') ∧ Qw u u') ∨
  (sI v 2 = 0 ∧ (∀ f (post : gS → Prop), wpX0_performAndEnd K (wpX0_admit f) post (tA u 0 (aA K y) 2) (aA K y) (iN d) → wpX0_admitF K (wpX0_admit f) post u (aA K y) (iN d)) ∧ (∀ post : Int32 → gS → Prop, post 1 v → wpM6_place KMv post v (iN y)))
theorem j_place {y d : Nat} (hK : KMI KMv) (h : RR n B KMv K j t w q e 24 x0 g u v) (hBm : B < 2147483647) (hy : y < j) (h0 : sA v 4 y = 0) (hx0 : x0 < j → sA v 4 x0 ≠ 0) (hd : d ≤ 24) : JP n B KMv K j t e x0 g u v y d := by
  obtain ⟨⟨ka, ha, ea⟩, ⟨kb, hb5, eb⟩, ⟨kr, hr, er⟩⟩ := hK
  obtain ⟨s, hs, hbs, hm, hf⟩ := j_idle h
  have ip := RR_ip h
  have hj := ip.1.1
  have hw := ip.1.2.1
  have hq4 := ip.1.2.2.1
  have e3 := ip.2.1.2.1
  have e6 := ip.2.1.2.2.1
  have rk := h.1.1
  have rs := h.2.1
  have rp := h.2.2.2.2.2.2.2.1
  have vq := h.2.2.2.2.2.2.2.2.2.2.2.1
  have vb := h.2.2.2.2.2.2.2.2.2.2.2.2.1
  obtain ⟨c0', e4c, hc4, _, _⟩ := id h.2.2.2.2.2.2.2.2.2.2.2.2.2.1
  have e2v : sI u 2 = sI v 3 := h.2.2.1.1.trans e3.symm
  have e4v : sI u 4 = sI v 6 := h.2.2.1.2.1.trans e6.symm
  have d24 : iN d ≤ 24 := (iN_le (a := d) (b := 24) (by omega) (by omega)).mpr hd
  have nq : ∀ k, k < q → sA v 11 k ≠ iN y := fun k hk ez => by
    have := vq.1 k y hk hy ez
    rw [h0] at this; exact absurd this (by decide)
  have nb : ∀ k, k < w → sA v 9 k ≠ iN y := fun k hk ez => by
    rcases vb.1 k y hk hy ez with z | z
    · rw [h0] at z; exact absurd z (by decide)
    · exact hx0 (z ▸ hy) (z ▸ h0)
  have hset : ∀ z : Int32, z ≠ 0 → z ≠ 1 → z ≠ 2 → RR n B KMv K j t w q e 24 x0 g (tA u 0 (aA K y) z) (tA v 4 y z) ∧ Pl j v (tA v 4 y z) ∧ St v (tA v 4 y z) ∧ sA (tA v 4 y z) 4 y ≠ 0 ∧ sI (tA v 4 y z) 8 = sI v 8 ∧ Nq y v (tA v 4 y z) ∧ (sI v 2 ≠ 0 → Sm v (tA v 4 y z)) ∧ Qw u (tA u 0 (aA K y) z) := fun z z0 z1 z2 =>
    ⟨RR_st h hy z0 (IP_st ip hy z0 (fun q => absurd q z1) (fun q => absurd q z2)) (fun k hk ez => absurd ez (nq k hk)) (fun k hk ez => absurd ez (nb k hk)), Pl_st hw e3 hy h0 z0, St_st (by rw [h0]; decide) (by rw [h0]; decide) (fun _ => rfl), by rw [tA_eq]; exact z0, rfl, Nq_same (fun i hi => tA_ne hi) rfl (fun _ => rfl) (Sc0_r hw e3 ⟨rfl, rfl, rfl, rfl, fun _ => rfl⟩), fun _ => ⟨fun _ => rfl, rfl, rfl⟩, fun _ => rfl⟩
  have setm : ∀ (z : Int32) (post : Int32 → gS → Prop), post 0 (tA v 4 y z) → vp_in (iN y) 24 ∧ (∀ u9 : gS, u9 = tA v 4 (iN y).toNatClampNeg z → (narrow .boolean (.int 0) = .int 0 ∧ post 0 u9)) := fun z post k => by
    refine ⟨iN_in (by omega) (by omega), fun u9 e9 => ⟨rfl, ?_⟩⟩
    rw [iN_nat (by omega)] at e9
    subst e9
    exact k
  by_cases c0 : sI v 2 = 0
  case neg =>
    obtain ⟨g1, g2, g3, g4, g5⟩ := hset 6 (by decide) (by decide) (by decide)
    refine Or.inl ⟨_, _, w, q, fun f post k => hf _ ⟨fun _ u4 e4 => by rw [e4]; exact k, fun z => absurd (rs.1 ▸ z) c0⟩, fun post k => f_place hw e3 hs hbs hm ⟨fun z => absurd z c0, fun _ => setm 6 post k⟩, g1, g2, g3, g4, g5⟩
  case pos =>
  have c0' : sI u 0 = 0 := rs.1.trans c0
  by_cases c1 : KMv 0 ≤ sI v 3
  case neg =>
    have c1' : ¬ K.1 0 ≤ sI u 2 := by rw [rk.1, e2v]; exact c1
    have hw5 : w < 5 := by
      rw [ea, e3] at c1
      have := mt (iN_le (a := ka) (b := w) (by omega) (by omega)).mpr c1; omega
    refine Or.inl ⟨xHire K u w (aA K y), mNew v w y, w + 1, q, fun f post k => hf _ ⟨fun z => absurd c0' z, fun _ => ⟨fun _ => ⟨fun z => absurd z c1', fun _ => e_hire hw5 (e2v.trans e3) rp.1 k⟩, fun z => absurd d24 z⟩⟩, fun post k => f_place hw e3 hs hbs hm ⟨fun _ => ⟨fun z => absurd z c1, fun _ => f_newWorker e3 (by omega) (by omega) ⟨rfl, k⟩⟩, fun z => absurd c0 z⟩, RR_new h hw5 hBm hy (Or.inl h0) (Or.inr ⟨h0, Nat.le_refl _⟩) nq nb, Pl_new' hw5 e3 hy h0, St_st (by rw [h0]; decide) (by rw [h0]; decide) (mNew_4 v w y), by rw [mNew_4, tA_eq]; decide, by rw [mNew_eq]; rfl, Nq_new hw5 e3 (by omega) e4c (by omega), fun z => absurd c0 z, fun _ => rfl⟩
  case pos =>
  have c1' : K.1 0 ≤ sI u 2 := by rw [rk.1, e2v]; exact c1
  by_cases c2 : s < w
  case pos =>
    have c2' : ¬ sI v 3 ≤ iN s := fun z => by
      rw [e3] at z
      have := (iN_le (by omega) (by omega)).mp z; omega
    rw [if_pos c2] at hf
    have hb9 := hbs c2
    refine Or.inl ⟨xBeg K u (aW u s) (aA K y), mWork v s y, w, q, fun f post k => hf _ ⟨fun z => absurd c0' z, fun _ => ⟨fun _ => ⟨fun _ => ⟨fun z => (by cases z), fun y7 e7 => by cases e7; exact ⟨(rp.1 s (by omega)).2, e_begin k⟩⟩, fun z => absurd c1' z⟩, fun z => absurd d24 z⟩⟩, fun post k => f_place hw e3 hs hbs hm ⟨fun _ => ⟨fun _ => ⟨fun z => absurd z c2', fun _ => m_work (by omega) (by omega) ⟨rfl, k⟩⟩, fun z => absurd c1 z⟩, fun z => absurd c0 z⟩, RR_work h c2 hy (fun i hi ez => (iN_neg (by omega) hb9 ez).elim) (Or.inl h0) nq (fun k hk _ => nb k hk), Pl_work hw e3 hb9 hy h0, St_st (by rw [h0]; decide) (by rw [h0]; decide) (mWork_4 v s y), by rw [mWork_4, tA_eq]; decide, rfl, Nq_work hw e3 (by omega), fun z => absurd c0 z, fun _ => rfl⟩
  case neg =>
  have hsw : s = w := by omega
  have c2' : sI v 3 ≤ iN s := by rw [e3, hsw]; exact Int32.le_refl _
  rw [if_neg c2] at hf
  by_cases c3 : KMv 2 ≤ sI v 6
  case neg =>
    have c3' : ¬ K.1 2 ≤ sI u 4 := by rw [rk.2.2.1, e4v]; exact c3
    have hq : q < 4 := by
      rw [er, e6] at c3
      have := mt (iN_le (a := kr) (b := q) (by omega) (by omega)).mpr c3; omega
    refine Or.inl ⟨xAdd u q (aA K y) (sD u 0), mEnq v q y, w, q + 1, fun f post k => hf _ ⟨fun z => absurd c0' z, fun _ => ⟨fun _ => ⟨fun _ => ⟨fun _ => ⟨fun z => absurd z c3', fun _ => e_add hq (e4v.trans e6) k⟩, fun y7 e7 => (by cases e7)⟩, fun z => absurd c1' z⟩, fun z => absurd d24 z⟩⟩, fun post k => f_place hw e3 hs hbs hm ⟨fun _ => ⟨fun _ => ⟨fun _ => ⟨fun z => absurd z c3, fun _ => m_enqueue e6 (by omega) (by omega) ⟨rfl, k⟩⟩, fun z => absurd c2' z⟩, fun z => absurd c1 z⟩, fun z => absurd c0 z⟩, RR_enq h hq hy nq nb, Pl_enq hw e3 hy h0, St_st (by rw [h0]; decide) (by rw [h0]; decide) (mEnq_4 v q y), by rw [mEnq_4, tA_eq]; decide, rfl, Nq_same (fun i hi => by rw [mEnq_4, tA_ne hi]) rfl (fun _ => rfl) (Sc0_r hw e3 ⟨rfl, rfl, rfl, rfl, fun _ => rfl⟩), fun z => absurd c0 z, fun _ => rfl⟩
  case pos =>
  have c3' : K.1 2 ≤ sI u 4 := by rw [rk.2.2.1, e4v]; exact c3
  by_cases c4 : KMv 1 ≤ sI v 3
  case neg =>
    have c4' : ¬ K.1 1 ≤ sI u 2 := by rw [rk.2.1, e2v]; exact c4
    have hw5 : w < 5 := by
      rw [eb, e3] at c4
      have := mt (iN_le (a := kb) (b := w) (by omega) (by omega)).mpr c4; omega
    refine Or.inl ⟨xHire K u w (aA K y), mNew v w y, w + 1, q, fun f post k => hf _ ⟨fun z => absurd c0' z, fun _ => ⟨fun _ => ⟨fun _ => ⟨fun _ => ⟨fun _ => ⟨fun z => absurd z c4', fun _ => e_hire hw5 (e2v.trans e3) rp.1 k⟩, fun z => absurd c3' z⟩, fun y7 e7 => (by cases e7)⟩, fun z => absurd c1' z⟩, fun z => absurd d24 z⟩⟩, fun post k => f_place hw e3 hs hbs hm ⟨fun _ => ⟨fun _ => ⟨fun _ => ⟨fun _ => ⟨fun z => absurd z c4, fun _ => f_newWorker e3 (by omega) (by omega) ⟨rfl, k⟩⟩, fun z => absurd c3 z⟩, fun z => absurd c2' z⟩, fun z => absurd c1 z⟩, fun z => absurd c0 z⟩, RR_new h hw5 hBm hy (Or.inl h0) (Or.inr ⟨h0, Nat.le_refl _⟩) nq nb, Pl_new' hw5 e3 hy h0, St_st (by rw [h0]; decide) (by rw [h0]; decide) (mNew_4 v w y), by rw [mNew_4, tA_eq]; decide, by rw [mNew_eq]; rfl, Nq_new hw5 e3 (by omega) e4c (by omega), fun z => absurd c0 z, fun _ => rfl⟩
  case pos =>
  have c4' : K.1 1 ≤ sI u 2 := by rw [rk.2.1, e2v]; exact c4
  have cls : ∀ f (post : gS → Prop), wpX0_turnAway K (wpX0_admit f) post u (aA K y) (iN d) → wpX0_admitF K (wpX0_admit f) post u (aA K y) (iN d) := fun f post k => hf _ ⟨fun z => absurd c0' z, fun _ => ⟨fun _ => ⟨fun _ => ⟨fun _ => ⟨fun _ => ⟨fun _ => k, fun z => absurd c4' z⟩, fun z => absurd c3' z⟩, fun y7 e7 => (by cases e7)⟩, fun z => absurd c1' z⟩, fun z => absurd d24 z⟩⟩
  have rk3 := rk.2.2.2.1
  by_cases p0 : KMv 3 = 0
  case pos =>
    obtain ⟨g1, g2, g3, g4, g5⟩ := hset 6 (by decide) (by decide) (by decide)
    refine Or.inl ⟨_, _, w, q, fun f post k => cls f post ⟨fun _ u2 e2 => by rw [e2]; exact k, fun z => absurd (rk3.trans p0) z⟩, fun post k => f_place hw e3 hs hbs hm ⟨fun _ => ⟨fun _ => ⟨fun _ => ⟨fun _ => ⟨fun _ => ⟨fun z => absurd p0 z, fun _ => setm 6 post k⟩, fun z => absurd c4 z⟩, fun z => absurd c3 z⟩, fun z => absurd c2' z⟩, fun z => absurd c1 z⟩, fun z => absurd c0 z⟩, g1, g2, g3, g4, g5⟩
  case neg =>
  have p0' : ¬ K.1 3 = 0 := by rw [rk3]; exact p0
  by_cases p1 : KMv 3 = 1
  case pos =>
    obtain ⟨g1, g2, g3, g4, g5⟩ := hset 5 (by decide) (by decide) (by decide)
    refine Or.inl ⟨_, _, w, q, fun f post k => cls f post ⟨fun z => absurd z p0', fun _ => ⟨fun _ u2 e2 => by rw [e2]; exact k, fun z => absurd (rk3.trans p1) z⟩⟩, fun post k => f_place hw e3 hs hbs hm ⟨fun _ => ⟨fun _ => ⟨fun _ => ⟨fun _ => ⟨fun _ => ⟨fun _ => ⟨fun _ => setm 5 post k, fun z => absurd p1 z⟩, fun z => absurd z p0⟩, fun z => absurd c4 z⟩, fun z => absurd c3 z⟩, fun z => absurd c2' z⟩, fun z => absurd c1 z⟩, fun z => absurd c0 z⟩, g1, g2, g3, g4, g5⟩
  case neg =>
  have p1' : ¬ K.1 3 = 1 := by rw [rk3]; exact p1
  by_cases p2 : KMv 3 = 2
  case neg =>
    have p2' : ¬ K.1 3 = 2 := by rw [rk3]; exact p2
    refine Or.inr ⟨c0, fun f post k => cls f post ⟨fun z => absurd z p0', fun _ => ⟨fun z => absurd z p1', fun _ => ⟨fun z => absurd z p2', fun _ u14 e14 => by rw [e14]; exact k⟩⟩⟩, fun post k => f_place hw e3 hs hbs hm ⟨fun _ => ⟨fun _ => ⟨fun _ => ⟨fun _ => ⟨fun _ => ⟨fun _ => ⟨fun z => absurd z p1, fun _ => ⟨fun _ => ⟨fun _ => ⟨rfl, k⟩, fun z => absurd z p2⟩, fun z => absurd z p2⟩⟩, fun z => absurd z p0⟩, fun z => absurd c4 z⟩, fun z => absurd c3 z⟩, fun z => absurd c2' z⟩, fun z => absurd c1 z⟩, fun z => absurd c0 z⟩⟩
  case pos =>
  have p2' : K.1 3 = 2 := rk3.trans p2
  rcases Nat.eq_zero_or_pos q with hq0 | hq0
  · obtain ⟨g1, g2, g3, g4, g5⟩ := hset 5 (by decide) (by decide) (by decide)
    have z6 : sI v 6 = 0 := by rw [e6, hq0]; rfl
    have z4 : ¬ (0 : Int32) < sI u 4 := by rw [e4v, z6]; decide
    refine Or.inl ⟨_, _, w, q, fun f post k => cls f post ⟨fun z => absurd z p0', fun _ => ⟨fun z => absurd z p1', fun _ => ⟨fun _ => ⟨fun z => absurd z (by decide), fun _ => ⟨fun z => absurd z z4, fun _ => ⟨fun _ u9 e9 => by rw [e9]; exact k, fun y8 e8 => (by cases e8)⟩⟩⟩, fun z => absurd p2' z⟩⟩⟩, fun post k => f_place hw e3 hs hbs hm ⟨fun _ => ⟨fun _ => ⟨fun _ => ⟨fun _ => ⟨fun _ => ⟨fun _ => ⟨fun z => absurd z p1, fun _ => ⟨fun z => absurd p2 z, fun _ => ⟨fun z => absurd z6 z, fun _ => setm 5 post k⟩⟩⟩, fun z => absurd z p0⟩, fun z => absurd c4 z⟩, fun z => absurd c3 z⟩, fun z => absurd c2' z⟩, fun z => absurd c1 z⟩, fun z => absurd c0 z⟩, g1, g2, g3, g4, g5⟩
  · obtain ⟨b, hb, eb11⟩ := ip.2.2.2.1 0 hq0
    have sb : sA v 4 b = 1 := vq.1 0 b hq0 hb eb11
    have hby : b ≠ y := fun z => by rw [z, h0] at sb; exact absurd sb (by decide)
    have hR := RR_deq h hq0 hb eb11
    have hno := deq_no vq hq0 eb11
    have hI1 := RR_ip hR
    have z6 : ¬ sI v 6 = 0 := fun z => by
      rw [e6] at z
      have := (iN_inj (a := q) (b := 0) (by omega) (by omega)).mp z; omega
    have hR1 := RR_st (y := b) (s := 5) hR hb (by decide) (IP_st hI1 hb (by decide) (fun z => absurd z (by decide)) (fun z => absurd z (by decide))) (fun k hk ez => absurd ez (hno k hk)) (fun k hk ez => by
      rcases vb.1 k b hk hb ez with z | z
      · rw [sb] at z; exact absurd z (by decide)
      · exact Or.inr z)
    have hR2 := RR_x hR1 (Or.inl (by rw [tA_eq]; decide))
    have hR3 := RR_enq (y := y) hR2 (by omega) hy (fun k hk ez => by
      have ez' : sh (sA v 11) 0 (q - 1) k = iN y := ez
      rw [sh_at _ _ _ _ hk] at ez'
      exact nq _ (by split <;> omega) ez') nb
    have hQ : sQ u 1 0 = some (aA K b) := by rw [(h.2.2.2.2.2.2.2.2.2.1 0 hq0).1, eb11, oJ_N (by omega)]
    have s4 : ∀ i, sA (mEnq (tA (mDq (tI v 6 (iN (q - 1))) 0 (q - 1)) 4 b 5) (q - 1) y) 4 i = if i = y then 1 else if i = b then 5 else sA v 4 i := fun i => by
      rw [mEnq_4]
      by_cases hiy : i = y
      · rw [if_pos hiy, hiy, tA_eq]
      · rw [if_neg hiy, tA_ne hiy]
        by_cases hib : i = b
        · rw [if_pos hib, hib, tA_eq]
        · rw [if_neg hib, tA_ne hib]; rfl
    have deq : ∀ post : Int32 → gS → Prop, post 0 (mEnq (tA (mDq (tI v 6 (iN (q - 1))) 0 (q - 1)) 4 b 5) (q - 1) y) → wpM6_dequeue KMv (fun (r12 : Int32) (u13 : gS) => vp_in r12 24 ∧ (∀ u14 : gS, u14 = tA u13 4 r12.toNatClampNeg 5 → (wpM6_enqueue KMv (fun (u16 : gS) => narrow .boolean (.int 0) = .int 0 ∧ post 0 u16) u14 (iN y)))) v 0 := fun post k => by
      refine f_dequeue (a := 0) (q := q) hq4 e6 hq0 ?_
      rw [eb11]
      refine ⟨iN_in (by omega) (by omega), fun u14 e14 => ?_⟩
      rw [iN_nat (by omega)] at e14
      subst e14
      exact m_enqueue (q := q - 1) rfl (by omega) (by omega) ⟨rfl, k⟩
    refine Or.inl ⟨_, _, w, q - 1 + 1, fun f post k => cls f post ⟨fun z => absurd z p0', fun _ => ⟨fun z => absurd z p1', fun _ => ⟨fun _ => e_lineRemove (a := 0) (c := q) hq4 (e4v.trans e6) hq0 (RR_mem h) ?_, fun z => absurd p2' z⟩⟩⟩, fun post k => f_place hw e3 hs hbs hm ⟨fun _ => ⟨fun _ => ⟨fun _ => ⟨fun _ => ⟨fun _ => ⟨fun _ => ⟨fun z => absurd z p1, fun _ => ⟨fun z => absurd p2 z, fun _ => ⟨fun _ => ⟨fun z => absurd p2 z, fun _ => deq post k⟩, fun z => absurd z z6⟩⟩⟩, fun z => absurd z p0⟩, fun z => absurd c4 z⟩, fun z => absurd c3 z⟩, fun z => absurd c2' z⟩, fun z => absurd c1 z⟩, fun z => absurd c0 z⟩, hR3, ⟨Ext.same hw e3 e3 (fun _ => rfl) (fun _ => rfl), fun _ => rfl, fun _ => rfl, fun _ => rfl, fun i hi => ?_, fun i hi hi2 => ?_, ?_⟩, fun i hi => ?_, ?_, rfl, ⟨Sc0_r hw e3 ⟨rfl, rfl, rfl, rfl, fun _ => rfl⟩, fun i hi hiy => ⟨?_, Bs_same rfl (fun _ => rfl)⟩⟩, fun z => absurd c0 z, fun _ => rfl⟩
    · rw [hQ]
      exact ⟨fun z => (by cases z), fun y8 e8 => by cases e8; exact ⟨(h.1.2 b hb).2.1, fun u11 e11 => by rw [e11]; exact e_add (c := q - 1) (by omega) rfl k⟩⟩
    · rw [s4]; split
      · decide
      · split
        · decide
        · exact hi
    · rw [s4]; split
      · decide
      · split
        · decide
        · exact hi2
    · refine cN_lt j (fun i hi z0 => ?_) hy h0 (by rw [s4, if_pos rfl]; decide)
      rw [s4] at z0
      by_cases hiy : i = y
      · rw [hiy]; exact h0
      · rw [if_neg hiy] at z0
        by_cases hib : i = b
        · rw [if_pos hib] at z0; exact absurd z0 (by decide)
        · rw [if_neg hib] at z0; exact z0
    · have hiy : i ≠ y := fun z => by rw [z, h0] at hi; rcases hi with hi | hi <;> exact absurd hi (by decide)
      have hib : i ≠ b := fun z => by rw [z, sb] at hi; rcases hi with hi | hi <;> exact absurd hi (by decide)
      rw [s4, if_neg hiy, if_neg hib]
    · rw [s4, if_pos rfl]; decide
    · rw [s4, if_neg hiy]
      by_cases hib : i = b
      · rw [if_pos hib, hib]; exact Or.inr ⟨sb, rfl⟩
      · rw [if_neg hib]; exact Or.inl rfl
end SUB
