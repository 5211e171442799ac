/-! the relation over one that is hired, one that rests, a job that is queued -/
def xAdd (u : gS) (c p : Nat) (d : UInt64) : gS := tI (tB (tQ (tA u 0 p 1) 1 c (some p)) 0 c d) 4 (iN (c + 1))
def xRest (u : gS) (W : Nat) (d : UInt64) : gS := tB (tA (tQ u 4 W none) 3 W 0) 3 W d
theorem tI_same (v : gS) (k : Nat) : tI v k (sI v k) = v := by
  show (va_up v.1 k (v.1 k), v.2) = v
  rw [va_same]
theorem mNew_eq (v : gS) (w y : Nat) : mNew v w y = mWork (tI (mNewB v w) 5 (if iN (w + 1) ≤ sI v 5 then sI v 5 else iN (w + 1))) w y := by
  unfold mNew
  by_cases h : iN (w + 1) ≤ sI v 5
  · rw [if_pos h, if_pos h]
    rw [show sI v 5 = sI (mNewB v w) 5 from rfl, tI_same]
  · rw [if_neg h, if_neg h]
section RRV
variable {n : Int} {B : Nat} {KMv : KM} {K : KX} {j t w q e x x0 g : Nat} {u v : gS}
theorem e_add {post : gS → Prop} {p1 c : Nat} {p2 : UInt64} (hc : c < 4) (e : sI u 4 = iN c) (k : post (xAdd u c p1 p2)) : wpX2_add K post u p1 p2 := by
  refine ⟨fun h u2 e2 => ?_, fun h => absurd (by rw [e]; exact (iN_lt (a := c) (b := 4) (by omega) (by omega)).mpr hc) h⟩
  subst e2
  have e' : sI (tA u 0 p1 1) 4 = iN c := e
  refine ⟨by rw [e']; exact iN_in hc (by omega), fun u3 e3 => ?_⟩
  rw [e', iN_nat (by omega)] at e3
  subst e3
  have e' : sI (tQ (tA u 0 p1 1) 1 c (some p1)) 4 = iN c := e
  refine ⟨by rw [e']; exact iN_in hc (by omega), fun u4 e4 u5 e5 => ?_⟩
  rw [e', iN_nat (by omega)] at e4
  subst e4
  have e' : sI (tB (tQ (tA u 0 p1 1) 1 c (some p1)) 0 c p2) 4 = iN c := e
  rw [e', iN_succ] at e5
  subst e5
  exact k
theorem RW_new {y : Nat} {c : Int32} (rp : RP K u) (h : RW K w u v) (hw : w < 5) (hy : y < 24) : RW K (w + 1) (tA (tQ u 4 (aW u w) (some (aA K y))) 3 (aW u w) c) (tA (tA v 9 w (iN y)) 10 w c) := by
  intro i hi
  have ea : aW (tA (tQ u 4 (aW u w) (some (aA K y))) 3 (aW u w) c) i = aW u i := rfl
  rw [ea]
  by_cases hik : i = w
  · subst hik
    refine ⟨?_, ?_, fun hn => ?_⟩
    · show sQ (tQ u 4 (aW u i) (some (aA K y))) 4 (aW u i) = oJ K (sA (tA v 9 i (iN y)) 9 i)
      rw [sQ_tQ, if_pos rfl, if_pos rfl, tA_eq, oJ_N (by omega)]
    · rw [tA_eq, tA_eq]
    · have hn' : sA (tA v 9 i (iN y)) 9 i < 0 := hn
      rw [tA_eq] at hn'
      exact absurd hn' (iN_nneg (by omega))
  · obtain ⟨h1, h2, h3⟩ := h i (by omega)
    have hne : aW u i ≠ aW u w := fun z => hik (rp.2 i w (by omega) (by omega) z)
    refine ⟨?_, ?_, fun hn => ?_⟩
    · show sQ (tQ u 4 (aW u w) (some (aA K y))) 4 (aW u i) = oJ K (sA (tA v 9 w (iN y)) 9 i)
      rw [sQ_tQ, if_pos rfl, if_neg hne, tA_ne hik]; exact h1
    · rw [tA_ne hne, tA_ne hik]; exact h2
    · have hn' : sA (tA v 9 w (iN y)) 9 i < 0 := hn
      rw [tA_ne hik] at hn'
      exact h3 hn'
theorem RR_newp {y B' : Nat} {p : Int32} (h : RR n B KMv K j t w q e x x0 g u v) (hw : w < 5) (hBm : B < 2147483647) (hy : y < j) (h0 : sA v 4 y = 0 ∨ t = 0) (hB : B + 1 ≤ B' ∨ (sA v 4 y = 0 ∧ B ≤ B')) (hq : ∀ k', k' < q → sA v 11 k' ≠ iN y) (hb : ∀ k', k' < w → sA v 9 k' ≠ iN y) : RR n B' KMv K j t (w + 1) q e x x0 g (tI (tI (xBeg K u (aW u w) (aA K y)) 2 (iN (w + 1))) 3 p) (mWork (tI (mNewB v w) 5 p) w y) := by
  obtain ⟨rk, rs, rz, r0, r1, r2, r3, rp, rw_, rl, rt, vq, vb, vn, vz, ip⟩ := h
  have hj := ip.1.1
  have e4 : ∀ i, sA (mWork (tI (mNewB v w) 5 p) w y) 4 i = sA (tA v 4 y 2) 4 i := fun i => by
    show sA (tA (tA (tA (tI (mNewB v w) 5 p) 9 w (iN y)) 10 w _) 4 y 2) 4 i = _
    by_cases hi : i = y
    · rw [hi, tA_eq, tA_eq]
    · rw [tA_ne hi, tA_ne hi]; rfl
  have e9 : ∀ i, sA (mWork (tI (mNewB v w) 5 p) w y) 9 i = sA (tA (tI (mNewB v w) 5 p) 9 w (iN y)) 9 i := fun i => rfl
  have o9 : ∀ i, sA (tI (mNewB v w) 5 p) 9 i = sA v 9 i := fun i => rfl
  have e8 : ∀ i, sA (mWork (tI (mNewB v w) 5 p) w y) 8 i = sA (tA v 8 w (sI v 4)) 8 i := fun i => rfl
  refine ⟨rk, ⟨rs.1, rs.2.1, rfl, rs.2.2.2⟩, ⟨rfl, rz.2.1, rz.2.2⟩, up_A (u := u) (v := tA (tA v 9 w (iN y)) 10 w (sA v 3 y)) (m := 0) (m' := 4) (RK_inj rk hj) hy r0, r1, r2, r3, rp, ?_, rl, rt, ⟨fun k' i hk' hi e1 => ?_, vq.2⟩, ⟨fun k' i hk' hi e1 => ?_, fun a b ha hb' hna hab => ?_⟩, ?_, vz, IP_new ip hw hy h0⟩
  · have := RW_new (c := K.2.2.2.1 (aA K y) 4) rp rw_ hw (show y < 24 by omega)
    rw [(rk.2 y hy).2.2.2.2.2.2] at this
    unfold xBeg
    rw [(rk.2 y hy).2.2.2.2.2.2]
    exact this
  · rw [e4]
    have hiy : i ≠ y := fun z => hq k' hk' (z ▸ e1)
    rw [tA_ne hiy]; exact vq.1 k' i hk' hi e1
  · rw [e4]
    by_cases hiy : i = y
    · rw [hiy, tA_eq]; exact Or.inl rfl
    · rw [tA_ne hiy]
      rw [e9] at e1
      by_cases hkk : k' = w
      · rw [hkk, tA_eq] at e1
        exact absurd ((iN_inj (by omega) (by omega)).mp e1).symm hiy
      · rw [tA_ne hkk, o9] at e1; exact vb.1 k' i (by omega) hi e1
  · rw [e9, e9] at hab
    rw [e9] at hna
    by_cases hak : a = w
    · by_cases hbk : b = w
      · rw [hak, hbk]
      · rw [hak, tA_eq, tA_ne hbk, o9] at hab
        exact absurd hab.symm (hb b (by omega))
    · rw [tA_ne hak, o9] at hab hna
      by_cases hbk : b = w
      · rw [hbk, tA_eq] at hab
        exact absurd hab (hb a (by omega))
      · rw [tA_ne hbk, o9] at hab
        exact vb.2 a b (by omega) (by omega) hna hab
  · obtain ⟨c, e4', hc, h8, hs⟩ := vn
    have c1 := cN_st' (v := v) (j := j) (y := y) (s := 2) (by decide)
    refine ⟨c + 1, ?_, ?_, fun i hi => ?_, fun a b hab hb' => ?_⟩
    · show sI v 4 + 1 = iN (c + 1)
      rw [e4', iN_succ]
    · rw [show sA (mWork (tI (mNewB v w) 5 p) w y) 4 = sA (tA v 4 y 2) 4 from funext e4]
      rcases hB with hB | ⟨h1, h2⟩
      · omega
      · have := cN_st (v := v) (j := j) (y := y) (s := 2) hy (by decide) h1
        omega
    · rw [e8]
      by_cases hiw : i = w
      · rw [hiw, tA_eq, e4']; exact ⟨c, by omega, rfl⟩
      · rw [tA_ne hiw]
        obtain ⟨a, ha, ea⟩ := h8 i (by omega)
        exact ⟨a, by omega, ea⟩
    · rw [e8, e8, tA_ne (show a ≠ w by omega)]
      by_cases hbw : b = w
      · rw [hbw, tA_eq, e4']
        obtain ⟨a', ha', ea'⟩ := h8 a (by omega)
        rw [ea']
        exact (iN_lt (by omega) (by omega)).mpr ha'
      · rw [tA_ne hbw]; exact hs a b hab (by omega)
theorem RR_new {y B' : Nat} (h : RR n B KMv K j t w q e x x0 g u v) (hw : w < 5) (hBm : B < 2147483647) (hy : y < j) (h0 : sA v 4 y = 0 ∨ t = 0) (hB : B + 1 ≤ B' ∨ (sA v 4 y = 0 ∧ B ≤ B')) (hq : ∀ k', k' < q → sA v 11 k' ≠ iN y) (hb : ∀ k', k' < w → sA v 9 k' ≠ iN y) : RR n B' KMv K j t (w + 1) q e x x0 g (xHire K u w (aA K y)) (mNew v w y) := by
  have h3 : sI u 3 = sI v 5 := h.2.1.2.2.1
  rw [mNew_eq]
  unfold xHire
  rw [show (if sI u 3 < iN (w + 1) then iN (w + 1) else sI u 3) = (if iN (w + 1) ≤ sI v 5 then sI v 5 else iN (w + 1)) by
    rw [h3]
    by_cases hl : iN (w + 1) ≤ sI v 5
    · rw [if_pos hl, if_neg (Int32.not_lt.mpr hl)]
    · rw [if_neg hl, if_pos (Int32.not_le.mp hl)]]
  exact RR_newp h hw hBm hy h0 hB hq hb
theorem RR_rest {k : Nat} (h : RR n B KMv K j t w q e x x0 g u v) (hk : k < w) (ho : ∀ i, i < j → sA v 9 k = iN i → sA v 4 i ≠ 2) : RR n B KMv K j t w q e x x0 g (xRest u (aW u k) (sD u 0)) (mRest v k) := by
  obtain ⟨rk, rs, rz, r0, r1, r2, r3, rp, rw_, rl, rt, vq, vb, vn, vz, ip⟩ := h
  have hj := ip.1.1
  have hw := ip.1.2.1
  have e9 : ∀ i, sA (mRest v k) 9 i = sA (tA v 9 k (-1)) 9 i := fun i => rfl
  refine ⟨rk, rs, rz, r0, r1, r2, r3, rp, ?_, rl, rt, vq, ⟨fun k' i hk' hi e1 => ?_, fun a b ha hb' hna hab => ?_⟩, vn, vz, IP_rest ip ho⟩
  · unfold xRest mRest
    rw [rs.2.2.2.2.1]
    exact RW_rest rp rw_ hw hk
  · rw [e9] at e1
    by_cases hkk : k' = k
    · rw [hkk, tA_eq] at e1
      exact (iN_neg (i := i) (by omega) (by decide) e1).elim
    · rw [tA_ne hkk] at e1; exact vb.1 k' i hk' hi e1
  · rw [e9, e9] at hab
    rw [e9] at hna
    have hak : a ≠ k := fun z => by rw [z, tA_eq] at hna; exact hna (by decide)
    rw [tA_ne hak] at hab hna
    by_cases hbk : b = k
    · rw [hbk, tA_eq] at hab; rw [hab] at hna; exact absurd (by decide) hna
    · rw [tA_ne hbk] at hab; exact vb.2 a b ha hb' hna hab
theorem RR_enq {y : Nat} (h : RR n B KMv K j t w q e x x0 g u v) (hq4 : q < 4) (hy : y < j) (hq : ∀ k', k' < q → sA v 11 k' ≠ iN y) (hb : ∀ k', k' < w → sA v 9 k' ≠ iN y) : RR n B KMv K j t w (q + 1) e x x0 g (xAdd u q (aA K y) (sD u 0)) (mEnq v q y) := by
  obtain ⟨rk, rs, rz, r0, r1, r2, r3, rp, rw_, rl, rt, vq, vb, vn, vz, ip⟩ := h
  have hj := ip.1.1
  have e4 : ∀ i, sA (mEnq v q y) 4 i = sA (tA v 4 y 1) 4 i := fun i => by
    show sA (tA (tI (tB (tA v 11 q (iN y)) 1 q (sD v 0)) 6 (iN (q + 1))) 4 y 1) 4 i = _
    by_cases hi : i = y
    · rw [hi, tA_eq, tA_eq]
    · rw [tA_ne hi, tA_ne hi]; rfl
  have e11 : ∀ i, sA (mEnq v q y) 11 i = sA (tA v 11 q (iN y)) 11 i := fun i => rfl
  refine ⟨rk, rs, ⟨rz.1, rfl, rz.2.2⟩, up_A (u := u) (v := tI (tB (tA v 11 q (iN y)) 1 q (sD v 0)) 6 (iN (q + 1))) (m := 0) (m' := 4) (RK_inj rk hj) hy r0, r1, r2, r3, rp, rw_, fun i hi => ?_, rt, ⟨fun k' i hk' hi e1 => ?_, fun a b ha hb' hab => ?_⟩, ⟨fun k' i hk' hi e1 => ?_, vb.2⟩, ?_, vz, IP_enq ip hq4 hy⟩
  · show sQ (tQ (tA u 0 (aA K y) 1) 1 q (some (aA K y))) 1 i = oJ K (sA (mEnq v q y) 11 i) ∧ sB (tB (tQ (tA u 0 (aA K y) 1) 1 q (some (aA K y))) 0 q (sD u 0)) 0 i = sB (tB (tA v 11 q (iN y)) 1 q (sD v 0)) 1 i
    rw [e11, sQ_tQ, if_pos rfl, sB_tB, if_pos rfl, sB_tB, if_pos rfl]
    by_cases hiq : i = q
    · rw [if_pos hiq, if_pos hiq, if_pos hiq, hiq, tA_eq, oJ_N (by omega), rs.2.2.2.2.1]; exact ⟨rfl, rfl⟩
    · rw [if_neg hiq, if_neg hiq, if_neg hiq, tA_ne hiq]
      exact rl i (by omega)
  · rw [e4]
    rw [e11] at e1
    by_cases hiy : i = y
    · rw [hiy, tA_eq]
    · rw [tA_ne hiy]
      by_cases hkq : k' = q
      · rw [hkq, tA_eq] at e1
        exact absurd ((iN_inj (by omega) (by omega)).mp e1).symm hiy
      · rw [tA_ne hkq] at e1; exact vq.1 k' i (by omega) hi e1
  · rw [e11, e11] at hab
    by_cases haq : a = q
    · by_cases hbq : b = q
      · rw [haq, hbq]
      · rw [haq, tA_eq, tA_ne hbq] at hab
        exact absurd hab.symm (hq b (by omega))
    · rw [tA_ne haq] at hab
      by_cases hbq : b = q
      · rw [hbq, tA_eq] at hab
        exact absurd hab (hq a (by omega))
      · rw [tA_ne hbq] at hab
        exact vq.2 a b (by omega) (by omega) hab
  · rw [e4]
    have hiy : i ≠ y := fun z => hb k' hk' (z ▸ e1)
    rw [tA_ne hiy]; exact vb.1 k' i hk' hi e1
  · obtain ⟨c, e4', hc, h8, hs⟩ := vn
    have := cN_st' (v := v) (j := j) (y := y) (s := 1) (by decide)
    refine ⟨c, e4', ?_, h8, hs⟩
    rw [show sA (mEnq v q y) 4 = sA (tA v 4 y 1) 4 from funext e4]
    omega
end RRV
