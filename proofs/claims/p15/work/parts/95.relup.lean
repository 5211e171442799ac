/-! the relation over a worker that begins, one that is hired, one that rests, a job that is queued -/
def xBeg (K : KX) (u : gS) (W p : Nat) : gS := tA (tQ (tA u 0 p 2) 4 W (some p)) 3 W (K.2.2.2.1 p 4)
def xHire (K : KX) (u : gS) (c p : Nat) : gS := tI (tI (xBeg K u (aW u c) p) 2 (iN (c + 1))) 3 (if sI u 3 < iN (c + 1) then iN (c + 1) else sI u 3)
def mNew (v : gS) (w y : Nat) : gS := if iN (w + 1) ≤ sI v 5 then mWork (mNewB v w) w y else mWork (tI (mNewB v w) 5 (iN (w + 1))) w y
section RRU
variable {n : Int} {B : Nat} {KMv : KM} {K : KX} {j t w q e x x0 g : Nat} {u v : gS}
theorem e_hire {post : gS → Prop} {p1 c : Nat} (hc : c < 5) (e : sI u 2 = iN c) (hw : ∀ i, i < 5 → sQ u 0 i = some (aW u i) ∧ aW u i ∈ K.2.1) (k : post (xHire K u c p1)) : wpX1_hire K post u p1 := by
  refine ⟨fun h => ?_, fun h => absurd (by rw [e]; exact (iN_lt (a := c) (b := 5) (by omega) (by omega)).mpr hc) h⟩
  refine ⟨by rw [e]; exact iN_in hc (by omega), fun r2 e2 => ?_⟩
  rw [e, iN_nat (by omega)] at e2
  refine ⟨aW u c, by rw [e2, (hw c hc).1], (hw c hc).2, e_begin (fun u7 e7 u8 e8 => ?_)⟩
  have e' : sI (tA (tQ (tA u 0 p1 2) 4 (aW u c) (some p1)) 3 (aW u c) (K.2.2.2.1 p1 4)) 2 = iN c := e
  rw [e', iN_succ] at e7
  subst e7 e8
  exact k
theorem f_newWorker {post : gS → Prop} {y : Nat} (ew : sI v 3 = iN w) (hw : w < 8) (hy : y < 24) (k : post (mNew v w y)) : wpM6_newWorker KMv post v (iN y) := by
  refine ⟨by rw [ew]; exact iN_in hw (by omega), fun u1 e1 u2 e2 u3 e3 => ?_⟩
  rw [ew, iN_nat (by omega)] at e1
  have e3' : u3 = mNewB v w := by
    subst e1 e2
    rw [e3]
    show tI _ 3 (sI v 3 + 1) = _
    rw [ew, iN_succ]; rfl
  have h3 : sI u3 3 = iN (w + 1) := by rw [e3']; rfl
  have h5 : sI u3 5 = sI v 5 := by rw [e3']; rfl
  unfold mNew at k
  refine ⟨fun h => ?_, fun h u7 e7 => ?_⟩
  · rw [h3, h5] at h
    rw [if_pos h] at k
    rw [h3, iN_pred (by omega), e3']
    exact m_work (by omega) hy k
  · rw [h3, h5] at h
    rw [if_neg h] at k
    rw [h3] at e7
    have h7 : sI u7 3 = iN (w + 1) := by rw [e7]; exact h3
    rw [h7, iN_pred (by omega), e7, e3']
    exact m_work (by omega) hy k
theorem RR_x (h : RR n B KMv K j t w q e x x0 g u v) (hx : sA v 4 x ≠ 1 ∨ j ≤ x) : RR n B KMv K j t w q e 24 x0 g u v := by
  obtain ⟨rk, rs, rz, r0, r1, r2, r3, rp, rw_, rl, rt, vq, vb, vn, vz, ip⟩ := h
  exact ⟨rk, rs, rz, r0, r1, r2, r3, rp, rw_, rl, rt, vq, vb, vn, vz, IP_x ip hx⟩
theorem RR_x0 (h : RR n B KMv K j t w q e x x0 g u v) (hx : ∀ k, k < w → x0 < j → sA v 9 k = iN x0 → sA v 4 x0 = 2) : RR n B KMv K j t w q e x 24 g u v := by
  obtain ⟨rk, rs, rz, r0, r1, r2, r3, rp, rw_, rl, rt, vq, vb, vn, vz, ip⟩ := h
  refine ⟨rk, rs, rz, r0, r1, r2, r3, rp, rw_, rl, rt, vq, ⟨fun k i hk hi e1 => ?_, vb.2⟩, vn, vz, ip⟩
  rcases vb.1 k i hk hi e1 with h1 | h1
  · exact Or.inl h1
  · subst h1; exact Or.inl (hx k hk hi e1)
theorem RR_x0' (h : RR n B KMv K j t w q e x 24 g u v) : RR n B KMv K j t w q e x x0 g u v := by
  obtain ⟨rk, rs, rz, r0, r1, r2, r3, rp, rw_, rl, rt, vq, vb, vn, vz, ip⟩ := h
  have hj := ip.1.1
  refine ⟨rk, rs, rz, r0, r1, r2, r3, rp, rw_, rl, rt, vq, ⟨fun k i hk hi e1 => ?_, vb.2⟩, vn, vz, ip⟩
  rcases vb.1 k i hk hi e1 with h1 | h1
  · exact Or.inl h1
  · omega
theorem RR_B {B' : Nat} (h : RR n B KMv K j t w q e x x0 g u v) (hB : B ≤ B') : RR n B' KMv K j t w q e x x0 g u v := by
  obtain ⟨rk, rs, rz, r0, r1, r2, r3, rp, rw_, rl, rt, vq, vb, ⟨c, e4, hc, h8, hs⟩, vz, ip⟩ := h
  exact ⟨rk, rs, rz, r0, r1, r2, r3, rp, rw_, rl, rt, vq, vb, ⟨c, e4, by omega, h8, hs⟩, vz, ip⟩
theorem RR_n {m : Int} (h : RR n B KMv K j t w q e x x0 g u v) (hm : n ≤ m) : RR m B KMv K j t w q e x x0 g u v := by
  obtain ⟨rk, rs, rz, r0, r1, r2, r3, rp, rw_, rl, rt, vq, vb, vn, vz, ip⟩ := h
  exact ⟨rk, rs, rz, r0, r1, r2, r3, rp, rw_, rl, rt, vq, vb, vn, vz, IP_mono ip hm⟩
theorem RR_work {k y : Nat} (h : RR n B KMv K j t w q e x x0 g u v) (hk : k < w) (hy : y < j) (ho : ∀ i, i < j → sA v 9 k = iN i → sA v 4 i ≠ 2) (h0 : sA v 4 y = 0 ∨ t = 0) (hq : ∀ k', k' < q → sA v 11 k' ≠ iN y) (hb : ∀ k', k' < w → k' ≠ k → sA v 9 k' ≠ iN y) : RR n B KMv K j t w q e x x0 g (xBeg K u (aW u k) (aA K y)) (mWork v k y) := by
  obtain ⟨rk, rs, rz, r0, r1, r2, r3, rp, rw_, rl, rt, vq, vb, vn, vz, ip⟩ := h
  have hj := ip.1.1
  have hw := ip.1.2.1
  have e4 : ∀ i, sA (mWork v k y) 4 i = sA (tA v 4 y 2) 4 i := fun i => by
    show sA (tA (tA (tA v 9 k (iN y)) 10 k _) 4 y 2) 4 i = _
    by_cases hi : i = y
    · rw [hi, tA_eq, tA_eq]
    · rw [tA_ne hi, tA_ne hi]; rfl
  have e9 : ∀ i, sA (mWork v k y) 9 i = sA (tA v 9 k (iN y)) 9 i := fun i => rfl
  refine ⟨rk, rs, rz, up_A (u := u) (v := tA (tA v 9 k (iN y)) 10 k (sA v 3 y)) (m := 0) (m' := 4) (RK_inj rk hj) hy r0, r1, r2, r3, rp, ?_, rl, rt, ⟨fun k' i hk' hi e1 => ?_, vq.2⟩, ⟨fun k' i hk' hi e1 => ?_, fun a b ha hb' hna hab => ?_⟩, ?_, vz, IP_work ip hk hy ho h0⟩
  · have := RW_work (c := K.2.2.2.1 (aA K y) 4) rp rw_ hw hk (show y < 24 by omega)
    rw [(rk.2 y hy).2.2.2.2.2.2] at this
    unfold xBeg
    rw [(rk.2 y hy).2.2.2.2.2.2]
    exact this
  · rw [e4]
    have hiy : i ≠ y := fun z => hq k' hk' (z ▸ e1)
    rw [tA_ne hiy]; exact vq.1 k' i hk' hi e1
  · rw [e4]
    by_cases hiy : i = y
    · rw [hiy, tA_eq]; exact Or.inl rfl
    · rw [tA_ne hiy]
      rw [e9] at e1
      by_cases hkk : k' = k
      · rw [hkk, tA_eq] at e1
        exact absurd ((iN_inj (by omega) (by omega)).mp e1).symm hiy
      · rw [tA_ne hkk] at e1; exact vb.1 k' i hk' hi e1
  · rw [e9, e9] at hab
    rw [e9] at hna
    by_cases hak : a = k
    · by_cases hbk : b = k
      · rw [hak, hbk]
      · rw [hak, tA_eq, tA_ne hbk] at hab
        exact absurd hab.symm (hb b hb' hbk)
    · rw [tA_ne hak] at hab hna
      by_cases hbk : b = k
      · rw [hbk, tA_eq] at hab
        exact absurd hab (hb a ha hak)
      · rw [tA_ne hbk] at hab
        exact vb.2 a b ha hb' hna hab
  · obtain ⟨c, e4', hc, h8, hs⟩ := vn
    have := cN_st' (v := v) (j := j) (y := y) (s := 2) (by decide)
    refine ⟨c, e4', ?_, h8, hs⟩
    rw [show sA (mWork v k y) 4 = sA (tA v 4 y 2) 4 from funext e4]
    omega
end RRU
