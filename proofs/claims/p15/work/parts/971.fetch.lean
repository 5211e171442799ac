/-! class and reference: the first of the queue is taken -/
def xTake (u : gS) (q : Nat) : gS := tI (xDq (tI (tD u 1 (FP.dadd (sD u 1) (FP.dsub (sD u 0) (sB u 0 0)))) 5 (sI u 5 + 1)) 0 (q - 1)) 4 (iN (q - 1))
def mFetch (v : gS) (q : Nat) : gS := mDq (tI (tI (tD v 1 (FP.dadd (sD v 1) (FP.dsub (sD v 0) (sB v 1 0)))) 9 (sI v 9 + 1)) 6 (iN (q - 1))) 0 (q - 1)
section FE
variable {n : Int} {B : Nat} {KMv : KM} {K : KX} {j t w q e x x0 g : Nat} {u v : gS}
theorem e_take0 {post : Option Nat → gS → Prop} {d : UInt64} (e : sI u 4 = iN 0) (k : post none u) : wpX2_takeFirst K post u d := ⟨fun h => absurd e h, fun _ => k⟩
theorem e_take {post : Option Nat → gS → Prop} (hq0 : 0 < q) (hq : q ≤ 4) (e : sI u 4 = iN q) (hl : ∀ i, i < q → ∀ y, sQ u 1 i = some y → y ∈ K.2.2.1) (d1 : vf_n64 (FP.dsub (sD u 0) (sB u 0 0))) (d2 : vf_n64 (FP.dadd (sD u 1) (FP.dsub (sD u 0) (sB u 0 0)))) (k : post (sQ u 1 0) (xTake u q)) : wpX2_takeFirst K post u (sD u 0) := by
  refine ⟨fun _ => ⟨iN_in (k := 0) (by omega) (by omega), d1, d2, fun u2 e2 u3 e3 => ?_⟩, fun h => ?_⟩
  · subst e2 e3
    exact e_lineRemove (a := 0) (c := q) hq e hq0 hl k
  · rw [e] at h
    have := (iN_inj (a := q) (b := 0) (by omega) (by omega)).mp h; omega
theorem f_fetch0 {post : Int32 → gS → Prop} (e : sI v 6 = iN 0) (k : post (-1) v) : wpM6_fetch KMv post v := ⟨fun h => absurd e h, fun _ => k⟩
theorem f_fetch {post : Int32 → gS → Prop} (hq0 : 0 < q) (hq : q ≤ 4) (e : sI v 6 = iN q) (d1 : vf_n64 (FP.dsub (sD v 0) (sB v 1 0))) (d2 : vf_n64 (FP.dadd (sD v 1) (FP.dsub (sD v 0) (sB v 1 0)))) (k : post (sA v 11 0) (mFetch v q)) : wpM6_fetch KMv post v := by
  refine ⟨fun _ => ⟨iN_in (k := 0) (by omega) (by omega), d1, d2, fun u2 e2 u3 e3 => ?_⟩, fun h => ?_⟩
  · subst e2 e3
    exact f_dequeue (a := 0) (q := q) hq e hq0 k
  · rw [e] at h
    have := (iN_inj (a := q) (b := 0) (by omega) (by omega)).mp h; omega
theorem RR_dly {X : UInt64} (h : RR n B KMv K j t w q e x x0 g u v) (hX : dN X) : RR n B KMv K j t w q e x x0 g (tI (tD u 1 X) 5 (sI u 5 + 1)) (tI (tD v 1 X) 9 (sI v 9 + 1)) := by
  obtain ⟨rk, rs, rz, r0, r1, r2, r3, rp, rw_, rl, rt, vq, vb, vn, vz, ip⟩ := h
  refine ⟨rk, ⟨rs.1, rs.2.1, rs.2.2.1, ?_, rs.2.2.2.2.1, rfl⟩, rz, r0, r1, r2, r3, rp, rw_, rl, rt, vq, vb, vn, vz, IP_i9 (IP_d1 ip hX)⟩
  show sI u 5 + 1 = sI v 9 + 1
  rw [rs.2.2.2.1]
theorem RR_mem (h : RR n B KMv K j t w q e x x0 g u v) : ∀ i, i < q → ∀ y, sQ u 1 i = some y → y ∈ K.2.2.1 := by
  intro i hi y ey
  obtain ⟨b, hb, eb⟩ := (RR_ip h).2.2.2.1 i hi
  have hj := (RR_ip h).1.1
  have h1 := (h.2.2.2.2.2.2.2.2.2.1 i hi).1
  rw [eb, oJ_N (by omega)] at h1
  rw [h1] at ey
  cases ey
  exact (h.1.2 b hb).2.1
/-- the delay's numbers are numbers -/
theorem RR_dd (h : RR n B KMv K j t w q e x x0 g u v) (hn : n ≤ 1000000000) : dN (FP.dsub (sD v 0) (sB v 1 0)) ∧ dN (FP.dadd (sD v 1) (FP.dsub (sD v 0) (sB v 1 0))) := by
  have kd := (RR_ip h).2.2.2.2.2.2.2.2.2.2.2
  have hd : dB (n + n) (FP.dsub (sD v 0) (sB v 1 0)) := dB_sub kd.1 (kd.2.2.2.1 0) (by omega)
  exact ⟨hd.1, dN_add kd.2.1 (dB_fin (by omega) hd)⟩
theorem j_fetch (h : RR n B KMv K j t w q e 24 x0 g u v) (hn : n ≤ 1000000000) :
    (q = 0 ∧ (∀ post, post none u → wpX2_takeFirst K post u (sD u 0)) ∧ (∀ post, post (-1) v → wpM6_fetch KMv post v)) ∨
    ∃ b, 0 < q ∧ b < j ∧ sA v 11 0 = iN b ∧ sA v 4 b = 1 ∧ (∀ post, post (some (aA K b)) (xTake u q) → wpX2_takeFirst K post u (sD u 0)) ∧ (∀ post, post (iN b) (mFetch v q) → wpM6_fetch KMv post v) ∧ RR n B KMv K j t w (q - 1) e b x0 g (xTake u q) (mFetch v q) ∧ (∀ k, k < q - 1 → sA (mFetch v q) 11 k ≠ iN b) := by
  have ip := RR_ip h
  have hj := ip.1.1
  have hq := ip.1.2.2.1
  have e6 := ip.2.1.2.2.1
  have e4 : sI u 4 = iN q := h.2.2.1.2.1
  have vq := h.2.2.2.2.2.2.2.2.2.2.2.1
  rcases Nat.eq_zero_or_pos q with h0 | h0
  · subst h0
    exact Or.inl ⟨rfl, fun post k => e_take0 e4 k, fun post k => f_fetch0 e6 k⟩
  · obtain ⟨b, hb, eb⟩ := ip.2.2.2.1 0 h0
    have dd := RR_dd h hn
    have rl0 := h.2.2.2.2.2.2.2.2.2.1 0 h0
    have rs := h.2.1
    have c1 : FP.dsub (sD u 0) (sB u 0 0) = FP.dsub (sD v 0) (sB v 1 0) := by rw [rs.2.2.2.2.1, rl0.2]
    have c2 : FP.dadd (sD u 1) (FP.dsub (sD u 0) (sB u 0 0)) = FP.dadd (sD v 1) (FP.dsub (sD v 0) (sB v 1 0)) := by rw [c1, rs.2.2.2.2.2]
    have hQ : sQ u 1 0 = some (aA K b) := by rw [rl0.1, eb, oJ_N (by omega)]
    refine Or.inr ⟨b, h0, hb, eb, vq.1 0 b h0 hb eb, fun post k => e_take h0 hq e4 (RR_mem h) ?_ ?_ ?_, fun post k => f_fetch h0 hq e6 (dN_n64 dd.1) (dN_n64 dd.2) (by rw [eb]; exact k), ?_, deq_no (v := tI (tD v 1 _) 9 _) vq h0 eb⟩
    · rw [c1]; exact dN_n64 dd.1
    · rw [c2]; exact dN_n64 dd.2
    · rw [hQ]; exact k
    · have := RR_deq (a := 0) (RR_dly (X := FP.dadd (sD v 1) (FP.dsub (sD v 0) (sB v 1 0))) h dd.2) h0 hb eb
      unfold xTake mFetch
      rw [c2]
      exact this
/-- a worker whose job x0 is over takes the first of the queue, or rests -/
theorem j_takeNext {k : Nat} (h : RR n B KMv K j 0 w q e 24 x0 g u v) (hn : n ≤ 1000000000) (hk : k < w) (hx0 : x0 < j) (ek : sA v 9 k = iN x0) (h1 : sA v 4 x0 ≠ 1) (h2 : sA v 4 x0 ≠ 2) :
    ∃ u' v' q', (∀ post, post u' → wpX0_freeWorker K post u (some (aW u k))) ∧ (∀ post, post v' → wpM6_takeNext KMv post v (iN k)) ∧ RR n B KMv K j 0 w q' e 24 24 g u' v' ∧ (∀ i, sA v' 8 i = sA v 8 i) ∧ sI v' 4 = sI v 4 ∧ sI v' 8 = sI v 8 ∧ sI v' 0 = sI v 0 ∧ (∀ i, sA v' 4 i = 0 → sA v 4 i = 0) := by
  have ip := RR_ip h
  have hj := ip.1.1
  have hw := ip.1.2.1
  have rp := h.2.2.2.2.2.2.2.1
  have vb := h.2.2.2.2.2.2.2.2.2.2.2.2.1
  have hWm : aW u k ∈ K.2.1 := (rp.1 k (by omega)).2
  have ho : ∀ i, i < j → sA v 9 k = iN i → sA v 4 i ≠ 2 := fun i hi ei => by
    have : i = x0 := (iN_inj (by omega) (by omega)).mp (ei.symm.trans ek)
    rw [this]; exact h2
  have only : ∀ k', k' < w → k' ≠ k → sA v 9 k' ≠ iN x0 := fun k' hk' hne ez => hne (vb.2 k' k hk' hk (by rw [ez]; exact iN_nneg (by omega)) (ez.trans ek.symm))
  rcases j_fetch h hn with ⟨q0, hx, hm⟩ | ⟨b, q0, hb, eb, sb, hx, hm, hR, hno⟩
  · refine ⟨xRest u (aW u k) (sD u 0), mRest v k, q, fun post kk => ⟨fun z => (by cases z), fun y1 e1 => ?_⟩, fun post kk => hm _ ⟨fun _ => m_rest (by omega) kk, fun z => absurd (by decide) z⟩, RR_x0 (RR_rest h hk ho) (fun k' hk' _ ez => ?_), fun i => rfl, rfl, rfl, rfl, fun i hi => hi⟩
    · cases e1
      exact hx _ ⟨fun _ => ⟨hWm, e_rest kk⟩, fun y4 e4 => by cases e4⟩
    · have ez' : sA (tA v 9 k (-1)) 9 k' = iN x0 := ez
      by_cases hkk : k' = k
      · rw [hkk, tA_eq] at ez'; exact (iN_neg (i := x0) (by omega) (by decide) ez').elim
      · rw [tA_ne hkk] at ez'; exact absurd ez' (only k' hk' hkk)
  · have hbx : b ≠ x0 := fun z => h1 (z ▸ sb)
    have nb : ∀ k', k' < w → k' ≠ k → sA v 9 k' ≠ iN b := fun k' hk' hne ez => by
      rcases vb.1 k' b hk' hb ez with z | z
      · rw [sb] at z; exact absurd z (by decide)
      · exact hbx z
    have hR2 := RR_work (y := b) hR hk hb ho (Or.inr rfl) hno nb
    have s4 : ∀ i, sA (mWork (mFetch v q) k b) 4 i = sA (tA v 4 b 2) 4 i := fun i => by
      show sA (tA (tA (tA (mFetch v q) 9 k (iN b)) 10 k _) 4 b 2) 4 i = _
      by_cases hi : i = b
      · rw [hi, tA_eq, tA_eq]
      · rw [tA_ne hi, tA_ne hi]; rfl
    refine ⟨xBeg K (xTake u q) (aW u k) (aA K b), mWork (mFetch v q) k b, q - 1, fun post kk => ⟨fun z => (by cases z), fun y1 e1 => ?_⟩, fun post kk => hm _ ⟨fun z => absurd z (iN_nneg (by omega)), fun _ => m_work (by omega) (by omega) kk⟩, RR_x0 (RR_x hR2 (Or.inl ?_)) (fun k' hk' _ ez => ?_), fun i => rfl, rfl, rfl, rfl, fun i hi => ?_⟩
    · cases e1
      exact hx _ ⟨fun z => (by cases z), fun y4 e4 => by cases e4; exact ⟨hWm, (h.1.2 b hb).2.1, e_begin kk⟩⟩
    · rw [s4, tA_eq]; decide
    · have ez' : sA (tA v 9 k (iN b)) 9 k' = iN x0 := ez
      by_cases hkk : k' = k
      · rw [hkk, tA_eq] at ez'
        exact absurd ((iN_inj (by omega) (by omega)).mp ez') hbx
      · rw [tA_ne hkk] at ez'; exact absurd ez' (only k' hk' hkk)
    · rw [s4] at hi
      by_cases hib : i = b
      · rw [hib, tA_eq] at hi; exact absurd hi (by decide)
      · rw [tA_ne hib] at hi; exact hi
end FE
