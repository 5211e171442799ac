/-! class and reference: about, worker, count, delay, due -/
section ASK
variable {n : Int} {B : Nat} {KMv : KM} {K : KX} {j t w q e x x0 g T y : Nat} {u v : gS} {f : Nat → Int64} {fd : Nat → UInt64}
theorem i4 (x : Int32) : x ≤ 4 ↔ x < 5 := by
  rw [Int32.le_iff_toInt_le, Int32.lt_iff_toInt_lt]
  have a : (4 : Int32).toInt = 4 := rfl
  have b : (5 : Int32).toInt = 5 := rfl
  omega
/-- where a job stands: in the queue, at a worker, nowhere -/
theorem j_where (h : RR n B KMv K j 0 w q e 24 24 60 u v) (hy : y < j) : ∃ r, (∀ post : Int32 → gS → Prop, post r u → wpX0_placeOf K post u (aA K y)) ∧ (∀ post : Int32 → gS → Prop, post r v → wpM6_placeInQueue KMv (fun (r16 : Int32) (u17 : gS) => ((r16 < 0 → (wpM6_workerOf KMv (fun (r19 : Int32) (u20 : gS) => post r19 u20) u17 (iN y))) ∧ (¬ r16 < 0 → (wpM6_placeInQueue KMv (fun (r21 : Int32) (u22 : gS) => post r21 u22) u17 (iN y))))) v (iN y)) := by
  have ip := RR_ip h
  have hj := ip.1.1
  have hw := ip.1.2.1
  have hq := ip.1.2.2.1
  have e3 := ip.2.1.2.1
  have e6 := ip.2.1.2.2.1
  have e2u : sI u 2 = iN w := h.2.2.1.1
  have e4u : sI u 4 = iN q := h.2.2.1.2.1
  have rp := h.2.2.2.2.2.2.2.1
  have s0 : sA u 0 (aA K y) = sA v 4 y := h.2.2.2.1 y hy
  by_cases s1 : sA v 4 y = 1
  · obtain ⟨k, hk, ek, es⟩ := q_at h hy s1
    have esu := (j_scanQ h hy).trans es
    refine ⟨iN k, fun post kk => ⟨fun z => absurd (s0.trans s1) z, fun _ => e_linePlace hq e4u (by rw [esu]; exact kk)⟩, fun post kk => f_placeInQueue hq e6 ?_⟩
    rw [es]
    exact ⟨fun z => absurd z (iN_nneg (by omega)), fun _ => f_placeInQueue hq e6 (by rw [es]; exact kk)⟩
  have nq : scan (fun i => decide (sA v 11 i = iN y)) q 0 = -1 := scan_no (fun m hm => decide_eq_false (no_q h hy s1 m hm))
  by_cases s2 : sA v 4 y = 2
  · obtain ⟨k, hk, ek, es⟩ := b_at h hy s2
    have esu := (j_scanW h hy).trans es
    refine ⟨iN k, fun post kk => ⟨fun _ => ⟨fun z => absurd (s0.trans s2) z, fun _ => e_placeOf hw e2u (fun i hi => rp.1 i (by omega)) (by rw [esu]; exact kk)⟩, fun z => absurd (s0.symm.trans z) s1⟩, fun post kk => f_placeInQueue hq e6 ?_⟩
    rw [nq]
    exact ⟨fun _ => f_workerOf hw e3 (by rw [es]; exact kk), fun z => absurd (by decide) z⟩
  · have nw : scan (fun i => decide (sA v 9 i = iN y)) w 0 = -1 := scan_no (fun m hm => decide_eq_false (no_b h hy s2 m hm))
    refine ⟨-1, fun post kk => ⟨fun _ => ⟨fun _ => kk, fun z => absurd (s0.symm.trans z) s2⟩, fun z => absurd (s0.symm.trans z) s1⟩, fun post kk => f_placeInQueue hq e6 ?_⟩
    rw [nq]
    exact ⟨fun _ => f_workerOf hw e3 (by rw [nw]; exact kk), fun z => absurd (by decide) z⟩
theorem j_about {a1 a2 : Int32} (h : RR n B KMv K j 0 w q e 24 24 60 u v) (hE : vE v) : JA f (fun post => wpL_about K post u f a1 a2) (fun post => wpM6_about KMv post v a1 a2) (JR n B KMv K j) := by
  unfold wpL_about wpX0_about
  have ip := RR_ip h
  have hj := ip.1.1
  have e1 := ip.2.1.1
  have no : ∀ {X : (Int32 → gS × (Nat → Int64) → Prop) → Prop} {M : (Int32 → gS → Prop) → Prop} (c : Int32), c ≠ 0 → (∀ post : Int32 → gS × (Nat → Int64) → Prop, post c (u, f) → X post) → (∀ post : Int32 → gS → Prop, post 0 (tI (tI v 0 0) 0 c) → M post) → JA f X M (JR n B KMv K j) := fun {X M} c hc hx hm => JA_no (c := c) (r := 0) (u' := u) (v' := tI (tI v 0 0) 0 c) hc hx hm rfl ⟨w, q, e, RR_i0 (RR_i0 h), hE⟩
  have yes : ∀ {X : (Int32 → gS × (Nat → Int64) → Prop) → Prop} {M : (Int32 → gS → Prop) → Prop} (r : Int32), (∀ post : Int32 → gS × (Nat → Int64) → Prop, post 0 (u, vp_updL f (0 : Int32).toNatClampNeg r.toInt64) → X post) → (∀ post : Int32 → gS → Prop, post r (tI v 0 0) → M post) → JA f X M (JR n B KMv K j) := fun {X M} r hx hm => JA_ok (r := r) (u' := u) (v' := tI v 0 0) hx hm rfl ⟨w, q, e, RR_i0 h, hE⟩
  by_cases b2 : a2 < 0 ∨ ¬ a2 < 5
  · refine no 1 (by decide) (fun post k => ⟨fun _ => Or.inl ⟨rfl, k⟩, fun z0 => ⟨fun z1 => ?_, fun _ => Or.inl ⟨rfl, k⟩⟩⟩) (fun post k => fun u1 e1' => ?_)
    · rcases b2 with z | z
      · exact absurd z z0
      · exact absurd ((i4 a2).mp z1) z
    · subst e1'
      refine m_out (fun _ => ⟨fun _ => f_fail k, fun z => absurd z (by decide)⟩) (fun _ _ => ⟨fun z => absurd rfl z, fun _ => m_out (fun _ => ⟨fun z => absurd z (by decide), fun _ => f_fail k⟩) (fun z0 z1 => ?_)⟩)
      rcases b2 with z | z
      · exact absurd z (Int32.not_lt.mpr z0)
      · exact absurd z1 z
  have b2a : ¬ a2 < 0 := fun z => b2 (Or.inl z)
  have b2b : a2 < 5 := Classical.byContradiction (fun z => b2 (Or.inr z))
  have rng : ∀ {post : gS → Prop} {px : String → gS → Prop}, post u → wpX0_checkRange K post px u a2 0 4 := fun k => ⟨fun z => absurd z b2a, fun _ => ⟨fun _ => k, fun z => absurd ((i4 a2).mpr b2b) z⟩⟩
  have out2 : ∀ {post : Int32 → gS → Prop} {v : gS}, post 0 v → wpM6_out KMv post v a2 5 := fun k => m_out (fun z => by
    rcases z with z | z
    · exact absurd z b2a
    · exact absurd b2b z) (fun _ _ => k)
  rcases num3 hj a1 with hA | ⟨h0, h1, hB⟩ | ⟨i, hi, ei⟩
  · refine no 1 (by decide) (fun post k => rng (e_knownA hA (Or.inl ⟨rfl, k⟩))) (fun post k => fun u1 e1' => ?_)
    subst e1'
    exact f_outA hA ⟨fun _ => f_fail k, fun z => absurd z (by decide)⟩
  · refine no 2 (by decide) (fun post k => rng (e_knownB h.1 h0 h1 hB (Or.inr ⟨rfl, k⟩))) (fun post k => fun u1 e1' => ?_)
    subst e1'
    exact f_outB h0 h1 ⟨fun z => absurd rfl z, fun _ => out2 ⟨fun _ => ⟨fun z => absurd z (not_lt_j e1 hB), fun _ => f_fail k⟩, fun z => absurd rfl z⟩⟩
  subst ei
  obtain ⟨_, mi, _, k1, _, _, _⟩ := h.1.2 i hi
  have s0 : sA u 0 (aA K i) = sA v 4 i := h.2.2.2.1 i hi
  have s7 : sA u 2 (aA K i) = sA v 7 i := h.2.2.2.2.2.1 i hi
  have lt : iN i < sI v 1 := by rw [e1]; exact (iN_lt (by omega) (by omega)).mpr hi
  have vi : vp_in (iN i) 24 := iN_in (by omega) (by omega)
  have ni : (iN i).toNatClampNeg = i := iN_nat (by omega)
  have cm : ∀ {post : Int32 → gS → Prop}, ((¬ a2 = 0 → ((¬ a2 = 1 → ((¬ a2 = 2 → ((¬ a2 = 3 → ((¬ (sA v 4 i) = 4 → post 0 (tI v 0 0)) ∧ ((sA v 4 i) = 4 → post (sA v 7 i) (tI v 0 0)))) ∧ (a2 = 3 → wpM6_placeInQueue KMv (fun (r16 : Int32) (u17 : gS) => ((r16 < 0 → (wpM6_workerOf KMv (fun (r19 : Int32) (u20 : gS) => post r19 u20) u17 (iN i))) ∧ (¬ r16 < 0 → (wpM6_placeInQueue KMv (fun (r21 : Int32) (u22 : gS) => post r21 u22) u17 (iN i))))) (tI v 0 0) (iN i)))) ∧ (a2 = 2 → post (sA v 5 i) (tI v 0 0)))) ∧ (a2 = 1 → post (sA v 0 i) (tI v 0 0)))) ∧ (a2 = 0 → post (sA v 4 i) (tI v 0 0))) → wpM6_about KMv post v (iN i) a2 := fun {post} k => fun u1 e1' => by
    subst e1'
    refine f_outC (by omega) ⟨fun z => absurd rfl z, fun _ => out2 ⟨fun _ => ⟨fun _ => ?_, fun z => absurd lt z⟩, fun z => absurd rfl z⟩⟩
    rw [ni]
    exact ⟨fun z0 => ⟨fun z1 => ⟨fun z2 => ⟨fun z3 => ⟨vi, fun z4 => (((k.1 z0).1 z1).1 z2).1 z3 |>.1 z4, fun z4 => ⟨vi, (((k.1 z0).1 z1).1 z2).1 z3 |>.2 z4⟩⟩, fun z3 => (((k.1 z0).1 z1).1 z2).2 z3⟩, fun z2 => ⟨vi, ((k.1 z0).1 z1).2 z2⟩⟩, fun z1 => ⟨vi, (k.1 z0).2 z1⟩⟩, fun z0 => ⟨vi, k.2 z0⟩⟩
  have hh := RR_i0 (s := 0) h
  by_cases c0 : a2 = 0
  · exact yes (sA v 4 i) (fun post k => rng (e_knownC h.1 hj hi ⟨fun _ => ⟨aA K i, rfl, mi, by rw [s0]; exact k⟩, fun z => absurd c0 z⟩)) (fun post k => cm ⟨fun z => absurd c0 z, fun _ => k⟩)
  by_cases c1 : a2 = 1
  · exact yes (sA v 0 i) (fun post k => rng (e_knownC h.1 hj hi ⟨fun z => absurd z c0, fun _ => ⟨fun _ => ⟨aA K i, rfl, mi, by rw [k1]; exact k⟩, fun z => absurd c1 z⟩⟩)) (fun post k => cm ⟨fun _ => ⟨fun z => absurd c1 z, fun _ => k⟩, fun z => absurd z c0⟩)
  by_cases c2 : a2 = 2
  · exact yes (sA v 5 i) (fun post k => rng (e_knownC h.1 hj hi ⟨fun z => absurd z c0, fun _ => ⟨fun z => absurd z c1, fun _ => ⟨fun _ => ⟨aA K i, rfl, mi, e_next h hi k⟩, fun z => absurd c2 z⟩⟩⟩)) (fun post k => cm ⟨fun _ => ⟨fun _ => ⟨fun z => absurd c2 z, fun _ => k⟩, fun z => absurd z c1⟩, fun z => absurd z c0⟩)
  by_cases c3 : a2 = 3
  · obtain ⟨r, hx, hm⟩ := j_where hh hi
    exact yes r (fun post k => rng (e_knownC h.1 hj hi ⟨fun z => absurd z c0, fun _ => ⟨fun z => absurd z c1, fun _ => ⟨fun z => absurd z c2, fun _ => ⟨fun _ => ⟨aA K i, rfl, mi, hx _ k⟩, fun z => absurd c3 z⟩⟩⟩⟩)) (fun post k => cm ⟨fun _ => ⟨fun _ => ⟨fun _ => ⟨fun z => absurd c3 z, fun _ => hm _ k⟩, fun z => absurd z c2⟩, fun z => absurd z c1⟩, fun z => absurd z c0⟩)
  have cx : ∀ {post : Int32 → gS × (Nat → Int64) → Prop}, ((¬ sA v 4 i = 4 → post 0 (u, vp_updL f (0 : Int32).toNatClampNeg (0 : Int32).toInt64)) ∧ (sA v 4 i = 4 → post 0 (u, vp_updL f (0 : Int32).toNatClampNeg (sA v 7 i).toInt64))) → wpL_about K post u f (iN i) a2 := fun {post} k => by
    unfold wpL_about wpX0_about
    exact rng (e_knownC h.1 hj hi ⟨fun z => absurd z c0, fun _ => ⟨fun z => absurd z c1, fun _ => ⟨fun z => absurd z c2, fun _ => ⟨fun z => absurd z c3, fun _ => ⟨aA K i, rfl, mi, fun z4 => k.1 (fun z => z4 (s0.trans z)), fun z4 => by rw [s7]; exact k.2 (s0.symm.trans z4)⟩⟩⟩⟩⟩)
  by_cases c4 : sA v 4 i = 4
  · exact yes (sA v 7 i) (fun post k => cx ⟨fun z => absurd c4 z, fun _ => k⟩) (fun post k => cm ⟨fun _ => ⟨fun _ => ⟨fun _ => ⟨fun _ => ⟨fun z => absurd c4 z, fun _ => k⟩, fun z => absurd z c3⟩, fun z => absurd z c2⟩, fun z => absurd z c1⟩, fun z => absurd z c0⟩)
  · exact yes 0 (fun post k => cx ⟨fun _ => k, fun z => absurd z c4⟩) (fun post k => cm ⟨fun _ => ⟨fun _ => ⟨fun _ => ⟨fun _ => ⟨fun _ => k, fun z => absurd z c4⟩, fun z => absurd z c3⟩, fun z => absurd z c2⟩, fun z => absurd z c1⟩, fun z => absurd z c0⟩)
theorem j_worker {a1 : Int32} (h : RR n B KMv K j 0 w q e 24 24 60 u v) (hE : vE v) : JA f (fun post => wpL_worker K post u f a1) (fun post => wpM6_worker KMv post v a1) (JR n B KMv K j) := by
  unfold wpL_worker wpX0_worker
  have ip := RR_ip h
  have hw := ip.1.2.1
  have e3 := ip.2.1.2.1
  have e2u : sI u 2 = iN w := h.2.2.1.1
  have rp := h.2.2.2.2.2.2.2.1
  have bad : (a1 < 0 ∨ iN w ≤ a1) → JA f (fun post => wpL_worker K post u f a1) (fun post => wpM6_worker KMv post v a1) (JR n B KMv K j) := fun hb => by
    refine JA_no (c := 1) (r := 0) (u' := u) (v' := tI (tI v 0 0) 0 1) (by decide) (fun post k => ⟨fun _ => ⟨fun _ => ⟨rfl, k⟩, fun y3 e3 => (by cases e3)⟩, fun z0 => ⟨fun _ => ⟨fun _ => ⟨rfl, k⟩, fun y3 e3 => (by cases e3)⟩, fun z1 => ?_⟩⟩) (fun post k => fun u1 e1' => by
      subst e1'
      refine m_out (fun _ => ⟨fun z => absurd z (by decide), fun _ => f_fail k⟩) (fun z0 z1 => ?_)
      have z1' : a1 < iN w := e3 ▸ z1
      rcases hb with z | z
      · exact absurd z (Int32.not_lt.mpr z0)
      · exact absurd z1' (Int32.not_lt.mpr z)) rfl ⟨w, q, e, RR_i0 (RR_i0 h), hE⟩
    rw [e2u] at z1
    rcases hb with z | z
    · exact absurd z z0
    · exact absurd z z1
  rcases num_or (j := w) (by omega) a1 with ⟨i, hi, ei⟩ | hb
  case inr => exact bad hb
  subst ei
  obtain ⟨_, r3, _⟩ := h.2.2.2.2.2.2.2.2.1 i hi
  refine JA_ok (r := sA v 10 i) (u' := u) (v' := tI v 0 0) (fun post k => e_at hw e2u hi ?_) (fun post k => fun u1 e1' => ?_) rfl ⟨w, q, e, RR_i0 h, hE⟩
  · rw [(rp.1 i (by omega)).1]
    exact ⟨fun z => (by cases z), fun y3 e3' => by cases e3'; exact ⟨(rp.1 i (by omega)).2, by rw [r3]; exact k⟩⟩
  · subst e1'
    refine m_out (fun z => ?_) (fun _ _ => ⟨fun _ => ⟨iN_in (by omega) (by omega), ?_⟩, fun z => absurd rfl z⟩)
    · rcases z with z | z
      · exact absurd z (iN_nneg (by omega))
      · exact absurd (show iN i < sI v 3 by rw [e3]; exact (iN_lt (by omega) (by omega)).mpr hi) z
    · rw [iN_nat (by omega)]; exact k
theorem i7 (x : Int32) (h0 : ¬ x < 0) (h7 : x ≤ 7) : x = 0 ∨ x = 1 ∨ x = 2 ∨ x = 3 ∨ x = 4 ∨ x = 5 ∨ x = 6 ∨ x = 7 := by
  obtain ⟨k, ek, hk⟩ := iN_of2 (x := x) (n := 8) (Int32.not_lt.mp h0) (by
    rw [Int32.le_iff_toInt_le] at h7
    rw [Int32.lt_iff_toInt_lt]
    have a : (7 : Int32).toInt = 7 := rfl
    have b : (iN 8).toInt = 8 := rfl
    omega) (by omega)
  subst ek
  rcases (show k = 0 ∨ k = 1 ∨ k = 2 ∨ k = 3 ∨ k = 4 ∨ k = 5 ∨ k = 6 ∨ k = 7 by omega) with rfl | rfl | rfl | rfl | rfl | rfl | rfl | rfl
  · exact Or.inl rfl
  · exact Or.inr (Or.inl rfl)
  · exact Or.inr (Or.inr (Or.inl rfl))
  · exact Or.inr (Or.inr (Or.inr (Or.inl rfl)))
  · exact Or.inr (Or.inr (Or.inr (Or.inr (Or.inl rfl))))
  · exact Or.inr (Or.inr (Or.inr (Or.inr (Or.inr (Or.inl rfl)))))
  · exact Or.inr (Or.inr (Or.inr (Or.inr (Or.inr (Or.inr (Or.inl rfl))))))
  · exact Or.inr (Or.inr (Or.inr (Or.inr (Or.inr (Or.inr (Or.inr rfl))))))
theorem j_count {a1 : Int32} (h : RR n B KMv K j 0 w q e 24 24 60 u v) (hE : vE v) : JA f (fun post => wpL_count K post u f a1) (fun post => wpM6_count KMv post v a1) (JR n B KMv K j) := by
  unfold wpL_count wpX0_count
  have ip := RR_ip h
  have hw := ip.1.2.1
  obtain ⟨b1, b3, b6, b7, b10⟩ := ip.2.1
  have e2u : sI u 2 = iN w := h.2.2.1.1
  have rp := h.2.2.2.2.2.2.2.1
  have rs := h.2.1
  have d : ∀ {a b : Int32}, a = b → ∀ {c : Int32}, a ≠ c → b ≠ c := fun {a b} e {c} hc z => hc (e.trans z)
  have yes : ∀ {X : (Int32 → gS × (Nat → Int64) → Prop) → Prop} {M : (Int32 → gS → Prop) → Prop} (r : Int32), (∀ post : Int32 → gS × (Nat → Int64) → Prop, post 0 (u, vp_updL f (0 : Int32).toNatClampNeg r.toInt64) → X post) → (∀ post : Int32 → gS → Prop, post r (tI v 0 0) → M post) → JA f X M (JR n B KMv K j) := fun {X M} r hx hm => JA_ok (r := r) (u' := u) (v' := tI v 0 0) hx hm rfl ⟨w, q, e, RR_i0 h, hE⟩
  by_cases hb : a1 < 0 ∨ ¬ a1 ≤ 7
  · refine JA_no (c := 1) (r := 0) (u' := u) (v' := tI (tI v 0 0) 0 1) (by decide) (fun post k => ⟨fun _ => ⟨rfl, k⟩, fun z0 => ⟨fun z1 => ?_, fun _ => ⟨rfl, k⟩⟩⟩) (fun post k => fun u1 e1' => ?_) rfl ⟨w, q, e, RR_i0 (RR_i0 h), hE⟩
    · rcases hb with z | z
      · exact absurd z z0
      · exact absurd z1 z
    · subst e1'
      have ne : ∀ c : Int32, ¬ c < 0 → c ≤ 7 → ¬ a1 = c := fun c c0 c7 z => by
        rw [z] at hb
        rcases hb with z | z
        · exact c0 z
        · exact z c7
      exact ⟨fun z => absurd z (ne 0 (by decide) (by decide)), fun _ => ⟨fun z => absurd z (ne 1 (by decide) (by decide)), fun _ => ⟨fun z => absurd z (ne 2 (by decide) (by decide)), fun _ => ⟨fun z => absurd z (ne 3 (by decide) (by decide)), fun _ => ⟨fun z => absurd z (ne 4 (by decide) (by decide)), fun _ => ⟨fun z => absurd z (ne 5 (by decide) (by decide)), fun _ => ⟨fun z => absurd z (ne 6 (by decide) (by decide)), fun _ => ⟨fun z => absurd z (ne 7 (by decide) (by decide)), fun _ => f_fail k⟩⟩⟩⟩⟩⟩⟩⟩
  have h0 : ¬ a1 < 0 := fun z => hb (Or.inl z)
  have h7 : a1 ≤ 7 := Classical.byContradiction (fun z => hb (Or.inr z))
  have rng : ∀ {post : gS → Prop} {px : String → gS → Prop}, post u → wpX0_checkRange K post px u a1 0 7 := fun k => ⟨fun z => absurd z h0, fun _ => ⟨fun _ => k, fun z => absurd h7 z⟩⟩
  rcases i7 a1 h0 h7 with c | c | c | c | c | c | c | c
  · have e0 : K.1 4 = sI v 1 := h.1.1.2.2.2.2.trans b1.symm
    exact yes (sI v 1) (fun post k => rng ⟨fun _ => by rw [e0]; exact k, fun z => absurd c z⟩) (fun post k => fun u1 e1' => by subst e1'; exact ⟨fun _ => k, fun z => absurd c z⟩)
  · have e0 : sI u 2 = sI v 3 := e2u.trans b3.symm
    have n0 : ¬ a1 = 0 := d c.symm (by decide)
    exact yes (sI v 3) (fun post k => rng ⟨fun z => absurd z n0, fun _ => ⟨fun _ => by rw [e0]; exact k, fun z => absurd c z⟩⟩) (fun post k => fun u1 e1' => by subst e1'; exact ⟨fun z => absurd z n0, fun _ => ⟨fun _ => k, fun z => absurd c z⟩⟩)
  · have n0 : ¬ a1 = 0 := d c.symm (by decide)
    have n1 : ¬ a1 = 1 := d c.symm (by decide)
    have cn := j_cnt h
    exact yes (iN (cntB (fun i => decide (¬ sA v 9 i < 0)) w)) (fun post k => rng ⟨fun z => absurd z n0, fun _ => ⟨fun z => absurd z n1, fun _ => ⟨fun _ => e_busy hw e2u (fun i hi => rp.1 i (by omega)) (by rw [cn]; exact k), fun z => absurd c z⟩⟩⟩) (fun post k => fun u1 e1' => by subst e1'; exact ⟨fun z => absurd z n0, fun _ => ⟨fun z => absurd z n1, fun _ => ⟨fun _ => f_countBusy (v := tI v 0 0) hw b3 k, fun z => absurd c z⟩⟩⟩)
  · have e0 : sI u 4 = sI v 6 := h.2.2.1.2.1.trans b6.symm
    have n0 : ¬ a1 = 0 := d c.symm (by decide)
    have n1 : ¬ a1 = 1 := d c.symm (by decide)
    have n2 : ¬ a1 = 2 := d c.symm (by decide)
    exact yes (sI v 6) (fun post k => rng ⟨fun z => absurd z n0, fun _ => ⟨fun z => absurd z n1, fun _ => ⟨fun z => absurd z n2, fun _ => ⟨fun _ => by rw [e0]; exact k, fun z => absurd c z⟩⟩⟩⟩) (fun post k => fun u1 e1' => by subst e1'; exact ⟨fun z => absurd z n0, fun _ => ⟨fun z => absurd z n1, fun _ => ⟨fun z => absurd z n2, fun _ => ⟨fun _ => k, fun z => absurd c z⟩⟩⟩⟩)
  · have e0 : sI u 6 = sI v 7 := h.2.2.1.2.2.trans b7.symm
    have n0 : ¬ a1 = 0 := d c.symm (by decide)
    have n1 : ¬ a1 = 1 := d c.symm (by decide)
    have n2 : ¬ a1 = 2 := d c.symm (by decide)
    have n3 : ¬ a1 = 3 := d c.symm (by decide)
    exact yes (sI v 7) (fun post k => rng ⟨fun z => absurd z n0, fun _ => ⟨fun z => absurd z n1, fun _ => ⟨fun z => absurd z n2, fun _ => ⟨fun z => absurd z n3, fun _ => ⟨fun _ => by rw [e0]; exact k, fun z => absurd c z⟩⟩⟩⟩⟩) (fun post k => fun u1 e1' => by subst e1'; exact ⟨fun z => absurd z n0, fun _ => ⟨fun z => absurd z n1, fun _ => ⟨fun z => absurd z n2, fun _ => ⟨fun z => absurd z n3, fun _ => ⟨fun _ => k, fun z => absurd c z⟩⟩⟩⟩⟩)
  · have n0 : ¬ a1 = 0 := d c.symm (by decide)
    have n1 : ¬ a1 = 1 := d c.symm (by decide)
    have n2 : ¬ a1 = 2 := d c.symm (by decide)
    have n3 : ¬ a1 = 3 := d c.symm (by decide)
    have n4' : ¬ a1 = 4 := d c.symm (by decide)
    exact yes (sI v 2) (fun post k => rng ⟨fun z => absurd z n0, fun _ => ⟨fun z => absurd z n1, fun _ => ⟨fun z => absurd z n2, fun _ => ⟨fun z => absurd z n3, fun _ => ⟨fun z => absurd z n4', fun _ => ⟨fun _ => by rw [rs.1]; exact k, fun z => absurd c z⟩⟩⟩⟩⟩⟩) (fun post k => fun u1 e1' => by subst e1'; exact ⟨fun z => absurd z n0, fun _ => ⟨fun z => absurd z n1, fun _ => ⟨fun z => absurd z n2, fun _ => ⟨fun z => absurd z n3, fun _ => ⟨fun z => absurd z n4', fun _ => ⟨fun _ => k, fun z => absurd c z⟩⟩⟩⟩⟩⟩)
  · have n0 : ¬ a1 = 0 := d c.symm (by decide)
    have n1 : ¬ a1 = 1 := d c.symm (by decide)
    have n2 : ¬ a1 = 2 := d c.symm (by decide)
    have n3 : ¬ a1 = 3 := d c.symm (by decide)
    have n4' : ¬ a1 = 4 := d c.symm (by decide)
    have n5' : ¬ a1 = 5 := d c.symm (by decide)
    exact yes (sI v 8) (fun post k => rng ⟨fun z => absurd z n0, fun _ => ⟨fun z => absurd z n1, fun _ => ⟨fun z => absurd z n2, fun _ => ⟨fun z => absurd z n3, fun _ => ⟨fun z => absurd z n4', fun _ => ⟨fun z => absurd z n5', fun _ => ⟨fun _ => by rw [rs.2.1]; exact k, fun z => absurd c z⟩⟩⟩⟩⟩⟩⟩) (fun post k => fun u1 e1' => by subst e1'; exact ⟨fun z => absurd z n0, fun _ => ⟨fun z => absurd z n1, fun _ => ⟨fun z => absurd z n2, fun _ => ⟨fun z => absurd z n3, fun _ => ⟨fun z => absurd z n4', fun _ => ⟨fun z => absurd z n5', fun _ => ⟨fun _ => k, fun z => absurd c z⟩⟩⟩⟩⟩⟩⟩)
  · have n0 : ¬ a1 = 0 := d c.symm (by decide)
    have n1 : ¬ a1 = 1 := d c.symm (by decide)
    have n2 : ¬ a1 = 2 := d c.symm (by decide)
    have n3 : ¬ a1 = 3 := d c.symm (by decide)
    have n4' : ¬ a1 = 4 := d c.symm (by decide)
    have n5' : ¬ a1 = 5 := d c.symm (by decide)
    have n6' : ¬ a1 = 6 := d c.symm (by decide)
    exact yes (sI v 5) (fun post k => rng ⟨fun z => absurd z n0, fun _ => ⟨fun z => absurd z n1, fun _ => ⟨fun z => absurd z n2, fun _ => ⟨fun z => absurd z n3, fun _ => ⟨fun z => absurd z n4', fun _ => ⟨fun z => absurd z n5', fun _ => ⟨fun z => absurd z n6', fun _ => by rw [rs.2.2.1]; exact k⟩⟩⟩⟩⟩⟩⟩) (fun post k => fun u1 e1' => by subst e1'; exact ⟨fun z => absurd z n0, fun _ => ⟨fun z => absurd z n1, fun _ => ⟨fun z => absurd z n2, fun _ => ⟨fun z => absurd z n3, fun _ => ⟨fun z => absurd z n4', fun _ => ⟨fun z => absurd z n5', fun _ => ⟨fun z => absurd z n6', fun _ => ⟨fun _ => k, fun z => absurd c z⟩⟩⟩⟩⟩⟩⟩⟩)
theorem j_delay (h : RR n B KMv K j 0 w q e 24 24 60 u v) (hE : vE v) : JD fd (fun post => wpL_delay K post u fd) (fun post => wpM6_delay KMv post v) (JR n B KMv K j) := by
  unfold wpL_delay wpX0_delay
  have ip := RR_ip h
  have kd := ip.2.2.2.2.2.2.2.2.2.2.2
  have rs := h.2.1
  have e5 : sI u 5 = sI v 9 := rs.2.2.2.1
  have ed : sD u 1 = sD v 1 := rs.2.2.2.2.2
  by_cases c0 : sI v 9 = 0
  · refine ⟨1, FP.i2d 0, u, tI (tI v 0 0) 0 1, fun post k => ⟨fun z => absurd (e5.trans c0) z, fun _ => ⟨rfl, ?_⟩⟩, fun post k => fun u1 e1' => ?_, rfl, ⟨w, q, e, RR_i0 (RR_i0 h), hE⟩, (dB_int 0 (n := 0) (by decide) (by decide)).1⟩
    · rw [if_neg (by decide)] at k; exact k
    · subst e1'
      exact ⟨fun z => absurd c0 z, fun _ => f_fail k⟩
  · have hd : dN (FP.ddiv (sD v 1) (FP.i2d (sI v 9))) := dN_div kd.2.1 c0
    refine ⟨0, FP.ddiv (sD v 1) (FP.i2d (sI v 9)), u, tI v 0 0, fun post k => ⟨fun _ => ?_, fun z => absurd (e5.symm.trans z) c0⟩, fun post k => fun u1 e1' => ?_, rfl, ⟨w, q, e, RR_i0 h, hE⟩, hd⟩
    · rw [if_pos rfl] at k
      rw [e5, ed]
      exact ⟨dN_n64 hd, k⟩
    · subst e1'
      exact ⟨fun _ => ⟨dN_n64 hd, k⟩, fun z => absurd z c0⟩
theorem j_due (h : RR n B KMv K j 0 w q e 24 24 60 u v) (hE : vE v) : JD fd (fun post => wpL_due K post u fd) (fun post => wpM6_due KMv post v) (JR n B KMv K j) := by
  unfold wpL_due wpX0_due
  have ip := RR_ip h
  have he := ip.1.2.2.2
  have e7 := ip.2.1.2.2.2.1
  have e6u : sI u 6 = iN e := h.2.2.1.2.2
  have kd := ip.2.2.2.2.2.2.2.2.2.2.2
  have same : mnF (sB u 1) e = mnF (sB v 2) e := mnF_congr e (by omega) (fun k hk => (h.2.2.2.2.2.2.2.2.2.2.1 k hk).2.1)
  rcases mnF_rng (t := sB v 2) e (by omega) with ⟨_, ea⟩ | ⟨a, ha, ea⟩
  · refine ⟨1, FP.i2d 0, u, tI (tI v 0 0) 0 1, fun post k => e_firstPlace he e6u ?_, fun post k => fun u1 e1' => ?_, rfl, ⟨w, q, e, RR_i0 (RR_i0 h), hE⟩, (dB_int 0 (n := 0) (by decide) (by decide)).1⟩
    · rw [same, ea]
      rw [if_neg (by decide)] at k
      exact ⟨fun z => absurd z (by decide), fun _ => ⟨rfl, k⟩⟩
    · subst e1'
      refine f_first (v := tI v 0 0) he e7 ?_
      rw [show mnF (sB (tI v 0 0) 2) e = -1 from ea]
      exact ⟨fun z => absurd z (by decide), fun _ => f_fail k⟩
  · have n0 : (0 : Int32) ≤ iN a := Int32.not_lt.mp (iN_nneg (by omega))
    have eb : sB u 1 a = sB v 2 a := (h.2.2.2.2.2.2.2.2.2.2.1 a ha).2.1
    refine ⟨0, sB v 2 a, u, tI v 0 0, fun post k => e_firstPlace he e6u ?_, fun post k => fun u1 e1' => ?_, rfl, ⟨w, q, e, RR_i0 h, hE⟩, (kd.2.2.2.2.1 a).1⟩
    · rw [same, ea]
      rw [if_pos rfl] at k
      refine ⟨fun _ => ⟨iN_in (by omega) (by omega), ?_⟩, fun z => absurd n0 z⟩
      rw [iN_nat (by omega), eb]; exact k
    · subst e1'
      refine f_first (v := tI v 0 0) he e7 ?_
      rw [show mnF (sB (tI v 0 0) 2) e = iN a from ea]
      refine ⟨fun _ => ⟨iN_in (by omega) (by omega), ?_⟩, fun z => absurd n0 z⟩
      rw [iN_nat (by omega)]; exact k
end ASK
