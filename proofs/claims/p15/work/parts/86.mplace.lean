/-! the reference: a place for a job -/
/-- what place does once it knows the spare worker -/
def mTail (K : KM) (post : Int32 → gS → Prop) (l1 l2 : Int32) (u : gS) : Prop :=
  ((((sI u 2) = 0 → ((((K 0) ≤ (sI u 3) → ((((sI u 3) ≤ l2 → ((((K 2) ≤ (sI u 6) → ((((K 1) ≤ (sI u 3) → (((¬ (K 3) = 0 → ((((K 3) = 1 → (vp_in l1 24 ∧ (∀ u9 : gS, u9 = tA u 4 l1.toNatClampNeg 5 → (narrow .boolean (.int 0) = .int 0 ∧ post 0 u9)))) ∧ (¬ (K 3) = 1 → (((¬ (K 3) = 2 → (((¬ (K 3) = 2 → (narrow .boolean (.int 1) = .int 1 ∧ post 1 u)) ∧ ((K 3) = 2 → (wpM6_dequeue K (fun (r12 : Int32) (u13 : gS) => vp_in r12 24 ∧ (∀ u14 : gS, u14 = tA u13 4 r12.toNatClampNeg 5 → (wpM6_enqueue K (fun (u16 : gS) => narrow .boolean (.int 0) = .int 0 ∧ post 0 u16) u14 l1))) u 0))))) ∧ ((K 3) = 2 → (((¬ (sI u 6) = 0 → (((¬ (K 3) = 2 → (narrow .boolean (.int 1) = .int 1 ∧ post 1 u)) ∧ ((K 3) = 2 → (wpM6_dequeue K (fun (r19 : Int32) (u20 : gS) => vp_in r19 24 ∧ (∀ u21 : gS, u21 = tA u20 4 r19.toNatClampNeg 5 → (wpM6_enqueue K (fun (u23 : gS) => narrow .boolean (.int 0) = .int 0 ∧ post 0 u23) u21 l1))) u 0))))) ∧ ((sI u 6) = 0 → (vp_in l1 24 ∧ (∀ u24 : gS, u24 = tA u 4 l1.toNatClampNeg 5 → (narrow .boolean (.int 0) = .int 0 ∧ post 0 u24))))))))))))) ∧ ((K 3) = 0 → (vp_in l1 24 ∧ (∀ u25 : gS, u25 = tA u 4 l1.toNatClampNeg 6 → (narrow .boolean (.int 0) = .int 0 ∧ post 0 u25))))))) ∧ (¬ (K 1) ≤ (sI u 3) → (wpM6_newWorker K (fun (u27 : gS) => narrow .boolean (.int 0) = .int 0 ∧ post 0 u27) u l1))))) ∧ (¬ (K 2) ≤ (sI u 6) → (wpM6_enqueue K (fun (u29 : gS) => narrow .boolean (.int 0) = .int 0 ∧ post 0 u29) u l1))))) ∧ (¬ (sI u 3) ≤ l2 → (wpM6_work K (fun (u31 : gS) => narrow .boolean (.int 0) = .int 0 ∧ post 0 u31) u l2 l1))))) ∧ (¬ (K 0) ≤ (sI u 3) → (wpM6_newWorker K (fun (u33 : gS) => narrow .boolean (.int 0) = .int 0 ∧ post 0 u33) u l1))))) ∧ (¬ (sI u 2) = 0 → (vp_in l1 24 ∧ (∀ u34 : gS, u34 = tA u 4 l1.toNatClampNeg 6 → (narrow .boolean (.int 0) = .int 0 ∧ post 0 u34))))))
section MPL
variable {n : Int} {K : KM} {j t w q e g : Nat} {v : gS}
theorem Pl_st {y : Nat} {s : Int32} (hw : w ≤ 5) (e3 : sI v 3 = iN w) (hy : y < j) (h0 : sA v 4 y = 0) (hs : s ≠ 0) : Pl j v (tA v 4 y s) := by
  refine ⟨Ext.same hw e3 e3 (fun _ => rfl) (fun _ => rfl), fun _ => rfl, fun _ => rfl, fun _ => rfl, fun i h => ?_, fun i h h2 => ?_, cN_st hy hs h0⟩
  · have : i ≠ y := fun z => h (z ▸ h0)
    rw [tA_ne this]; exact h
  · have : i ≠ y := fun z => h (z ▸ h0)
    rw [tA_ne this]; exact h2
theorem Pl_work {k y : Nat} (hw : w ≤ 5) (e3 : sI v 3 = iN w) (hb : sA v 9 k < 0) (hy : y < j) (h0 : sA v 4 y = 0) : Pl j v (mWork v k y) := by
  obtain ⟨_, a2, a3, a4, a5, a6, a7⟩ := Pl_st (s := 2) hw e3 hy h0 (by decide)
  refine ⟨⟨w, w, Nat.le_refl _, hw, e3, e3, fun _ _ => rfl, fun i _ hi => ?_⟩, fun _ => rfl, fun _ => rfl, fun _ => rfl, a5, a6, a7⟩
  show sA (tA v 9 k (iN y)) 9 i = sA v 9 i
  exact tA_ne (fun z => hi (z ▸ hb))
theorem Pl_new {y : Nat} (hw : w < 5) (e3 : sI v 3 = iN w) (hy : y < j) (h0 : sA v 4 y = 0) : Pl j v (mWork (mNewB v w) w y) := by
  obtain ⟨_, a2, a3, a4, a5, a6, a7⟩ := Pl_st (s := 2) (show w ≤ 5 by omega) e3 hy h0 (by decide)
  refine ⟨⟨w, w + 1, by omega, by omega, e3, rfl, fun i hi => ?_, fun i hi _ => ?_⟩, fun _ => rfl, fun _ => rfl, fun _ => rfl, a5, a6, a7⟩
  · show sA (tA v 8 w (sI v 4)) 8 i = sA v 8 i
    exact tA_ne (by omega)
  · show sA (tA (mNewB v w) 9 w (iN y)) 9 i = sA v 9 i
    exact tA_ne (by omega)
theorem Pl_enq {y : Nat} (hw : w ≤ 5) (e3 : sI v 3 = iN w) (hy : y < j) (h0 : sA v 4 y = 0) : Pl j v (mEnq v q y) := by
  obtain ⟨_, a2, a3, a4, a5, a6, a7⟩ := Pl_st (s := 1) hw e3 hy h0 (by decide)
  exact ⟨Ext.same hw e3 e3 (fun _ => rfl) (fun _ => rfl), fun _ => rfl, fun _ => rfl, fun _ => rfl, a5, a6, a7⟩
def KMI (K : KM) : Prop := (∃ a, a ≤ 3 ∧ K 0 = iN a) ∧ (∃ b, b ≤ 5 ∧ K 1 = iN b) ∧ (∃ r, r ≤ 4 ∧ K 2 = iN r)
theorem m_tail {post : Int32 → gS → Prop} {y s : Nat} (hK : KMI K) (hI : IP n j t w q e 24 g v) (hy : y < j) (h0 : sA v 4 y = 0) (hs : s ≤ w) (hb : s < w → sA v 9 s < 0) (k1 : post 1 v) (k : ∀ v' w' q', IP n j t w' q' e 24 g v' → Pl j v v' → sA v' 4 y ≠ 0 → post 0 v') : mTail K post (iN y) (iN s) v := by
  obtain ⟨⟨ka, ha, ea⟩, ⟨kb, hb5, eb⟩, ⟨kr, hr, er⟩⟩ := hK
  have hj := hI.1.1
  have hw := hI.1.2.1
  have hq := hI.1.2.2.1
  have e3 := hI.2.1.2.1
  have e6 := hI.2.1.2.2.1
  have set : ∀ (z : Int32), z ≠ 0 → z ≠ 1 → z ≠ 2 → vp_in (iN y) 24 ∧ (∀ u9 : gS, u9 = tA v 4 (iN y).toNatClampNeg z → (narrow .boolean (.int 0) = .int 0 ∧ post 0 u9)) := by
    intro z z0 z1 z2
    refine ⟨iN_in (by omega) (by omega), fun u9 e9 => ⟨rfl, ?_⟩⟩
    rw [iN_nat (by omega)] at e9
    subst e9
    exact k _ w q (IP_st hI hy z0 (fun h => absurd h z1) (fun h => absurd h z2)) (Pl_st hw e3 hy h0 z0) (by rw [tA_eq]; exact z0)
  have new : w < 5 → wpM6_newWorker K (fun (u27 : gS) => narrow .boolean (.int 0) = .int 0 ∧ post 0 u27) v (iN y) := by
    intro h5
    refine m_newWorker e3 (by omega) (by omega) ⟨rfl, k _ (w + 1) q (IP_new hI h5 hy (Or.inl h0)) (Pl_new h5 e3 hy h0) ?_⟩ ⟨rfl, k _ (w + 1) q (IP_new5 hI h5 hy (Or.inl h0)) (Pl_new h5 e3 hy h0) ?_⟩
    · unfold mWork; rw [tA_eq]; decide
    · unfold mWork; rw [tA_eq]; decide
  have deq : 0 < q → wpM6_dequeue K (fun (r12 : Int32) (u13 : gS) => vp_in r12 24 ∧ (∀ u14 : gS, u14 = tA u13 4 r12.toNatClampNeg 5 → (wpM6_enqueue K (fun (u16 : gS) => narrow .boolean (.int 0) = .int 0 ∧ post 0 u16) u14 (iN y)))) v 0 := by
    intro hq0
    refine m_dequeue (a := 0) hI hq0 (fun b v1 hb1 eb1 hv1 ag => ⟨iN_in (by omega) (by omega), fun u14 e14 => ?_⟩)
    rw [iN_nat (by omega)] at e14
    subst e14
    have h2 : IP n j t w (q - 1) e 24 g (tA v1 4 b 5) := IP_x (IP_st hv1 hb1 (by decide) (fun h => absurd h (by decide)) (fun h => absurd h (by decide))) (Or.inl (by rw [tA_eq]; decide))
    refine m_enqueue h2.2.1.2.2.1 (by omega) (by omega) ⟨rfl, k _ w (q - 1 + 1) (IP_enq h2 (by omega) hy) ?_ ?_⟩
    · have s4 : ∀ i, sA (mEnq (tA v1 4 b 5) (q - 1) y) 4 i = if i = y then 1 else if i = b then 5 else sA v 4 i := fun i => by
        show sA (tA (tA v1 4 b 5) 4 y 1) 4 i = _
        by_cases hiy : i = y
        · rw [if_pos hiy, hiy, tA_eq]
        · rw [if_neg hiy, tA_ne hiy]
          by_cases hib : i = b
          · rw [if_pos hib, hib, tA_eq]
          · rw [if_neg hib, tA_ne hib]; exact ag.2.2.1 4 i (by decide)
      refine ⟨Ext.same hw e3 ((ag.1 3 (by decide)).trans e3) (fun i => ag.2.2.1 8 i (by decide)) (fun i => ag.2.2.1 9 i (by decide)), fun i => ag.2.2.1 13 i (by decide), fun i => ag.2.2.1 14 i (by decide), fun i => ag.2.2.1 1 i (by decide), fun i h => ?_, fun i h h2' => ?_, ?_⟩
      · rw [s4]; split
        · decide
        · split
          · decide
          · exact h
      · rw [s4]; split
        · decide
        · split
          · decide
          · exact h2'
      · refine cN_lt j (fun i hi z0 => ?_) hy h0 (by rw [s4, if_pos rfl]; decide)
        rw [s4] at z0
        by_cases hiy : i = y
        · rw [hiy]; exact h0
        · rw [if_neg hiy] at z0
          by_cases hib : i = b
          · rw [if_pos hib] at z0; exact absurd z0 (by decide)
          · rw [if_neg hib] at z0; exact z0
    · show sA (mEnq (tA v1 4 b 5) (q - 1) y) 4 y ≠ 0
      unfold mEnq; rw [tA_eq]; decide
  refine ⟨fun _ => ⟨fun c1 => ⟨fun c2 => ⟨fun c3 => ⟨fun c4 => ⟨fun p0 => ⟨fun p1 => set 5 (by decide) (by decide) (by decide), fun p1 => ⟨fun p2 => ⟨fun _ => ⟨rfl, k1⟩, fun z => absurd z p2⟩, fun p2 => ⟨fun q0 => ⟨fun z => absurd p2 z, fun _ => deq ?_⟩, fun q0 => set 5 (by decide) (by decide) (by decide)⟩⟩⟩, fun p0 => set 6 (by decide) (by decide) (by decide)⟩, fun c4 => new ?_⟩, fun c3 => ?_⟩, fun c2 => ?_⟩, fun c1 => new ?_⟩, fun _ => set 6 (by decide) (by decide) (by decide)⟩
  · rcases Nat.eq_zero_or_pos q with z | z
    · exact absurd (by rw [e6, z]; rfl) q0
    · exact z
  · rw [eb, e3] at c4
    have := mt (iN_le (a := kb) (b := w) (by omega) (by omega)).mpr c4
    omega
  · rw [er, e6] at c3
    have := mt (iN_le (a := kr) (b := q) (by omega) (by omega)).mpr c3
    exact m_enqueue e6 (by omega) (by omega) ⟨rfl, k _ w (q + 1) (IP_enq hI (by omega) hy) (Pl_enq hw e3 hy h0) (by unfold mEnq; rw [tA_eq]; decide)⟩
  · rw [e3] at c2
    have hsw := x_c0 (by omega) (by omega) c2
    have hbs := hb hsw
    exact m_work (by omega) (by omega) ⟨rfl, k _ w q (IP_work hI hsw hy (fun i hi z => (iN_neg (by omega) hbs z).elim) (Or.inl h0)) (Pl_work hw e3 hbs hy h0) (by unfold mWork; rw [tA_eq]; decide)⟩
  · rw [ea, e3] at c1
    have := mt (iN_le (a := ka) (b := w) (by omega) (by omega)).mpr c1
    omega
theorem m_place {post : Int32 → gS → Prop} {y : Nat} (hK : KMI K) (hI : IP n j t w q e 24 g v) (hy : y < j) (h0 : sA v 4 y = 0) (k1 : post 1 v) (k : ∀ v' w' q', IP n j t w' q' e 24 g v' → Pl j v v' → sA v' 4 y ≠ 0 → post 0 v') : wpM6_place K post v (iN y) := by
  have hw := hI.1.2.1
  have e3 := hI.2.1.2.1
  have key : ∀ d i, i + d = w → wpM6_place_2 K post (d + 1) (iN y) (iN i) v := by
    intro d
    induction d with
    | zero =>
      intro i hi
      refine ⟨fun _ => m_tail hK hI hy h0 (by omega) (fun h => by omega) k1 k, fun hh => ?_⟩
      rw [e3] at hh
      have := x_c0 (by omega) (by omega) hh; omega
    | succ d ih =>
      intro i hi
      refine ⟨fun hh => ?_, fun _ => ⟨iN_in (by omega) (by omega), fun hb => ?_, fun _ x69 e69 => ?_⟩⟩
      · rw [e3] at hh
        have := (iN_le (by omega) (by omega)).mp hh; omega
      · rw [iN_nat (by omega)] at hb
        exact m_tail hK hI hy h0 (by omega) (fun _ => hb) k1 k
      · rw [e69, iN_succ]; exact ih (i + 1) (by omega)
  exact ⟨w + 1, key w 0 (by omega)⟩
end MPL
