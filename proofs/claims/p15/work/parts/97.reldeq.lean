/-! the relation over a job that leaves the queue, a worker that goes -/
theorem sh_at {α : Type} (f : Nat → α) (a i k : Nat) (hk : k < i) : sh f a i k = f (if k < a then k else k + 1) := by
  by_cases h : k < a
  · rw [sh_lo h, if_pos h]
  · rw [sh_in (by omega) hk, if_neg h]
section RRD
variable {n : Int} {B : Nat} {KMv : KM} {K : KX} {j t w q e x x0 g : Nat} {u v : gS}
theorem IP_dq {a b : Nat} (hI : IP n j t w q e 24 g v) (ha : a < q) (hb : b < j) (eb : sA v 11 a = iN b) : IP n j t w (q - 1) e b g (mDq (tI v 6 (iN (q - 1))) a (q - 1)) := by
  obtain ⟨bb, ⟨b1, b3, b6, b7, b10⟩, c, d, f, gx, k1, k2, k0, kt, kc, kd⟩ := hI
  have hj := bb.1
  have hq4 := bb.2.2.1
  refine ⟨⟨bb.1, bb.2.1, by omega, bb.2.2.2⟩, ⟨b1, b3, rfl, b7, b10⟩, c, fun i hi => ?_, f, gx, fun i hi hx e1 => ?_, k2, k0, kt, kc, ⟨kd.1, kd.2.1, kd.2.2.1, fun z => ?_, kd.2.2.2.2⟩⟩
  · show ∃ b, b < j ∧ sh (sA v 11) a (q - 1) i = iN b
    rw [sh_at _ _ _ _ hi]
    exact d _ (by split <;> omega)
  · obtain ⟨k', hk, ek⟩ := k1 i hi (by omega) e1
    by_cases hka : k' < a
    · refine ⟨k', by omega, ?_⟩
      show sh (sA v 11) a (q - 1) k' = iN i
      rw [sh_lo hka]; exact ek
    · have hne : k' ≠ a := fun z => by
        rw [z, eb] at ek
        exact hx ((iN_inj (by omega) (by omega)).mp ek).symm
      refine ⟨k' - 1, by omega, ?_⟩
      show sh (sA v 11) a (q - 1) (k' - 1) = iN i
      rw [sh_in (by omega) (by omega), show k' - 1 + 1 = k' by omega]; exact ek
  · show dB n (sh (sB v 1) a (q - 1) z)
    unfold sh
    split
    · exact kd.2.2.2.1 _
    · exact kd.2.2.2.1 _
theorem RR_deq {a b : Nat} (h : RR n B KMv K j t w q e 24 x0 g u v) (ha : a < q) (hb : b < j) (eb : sA v 11 a = iN b) : RR n B KMv K j t w (q - 1) e b x0 g (tI (xDq u a (q - 1)) 4 (iN (q - 1))) (mDq (tI v 6 (iN (q - 1))) a (q - 1)) := by
  obtain ⟨rk, rs, rz, r0, r1, r2, r3, rp, rw_, rl, rt, vq, vb, vn, vz, ip⟩ := h
  refine ⟨rk, rs, ⟨rz.1, rfl, rz.2.2⟩, r0, r1, r2, r3, rp, rw_, fun i hi => ?_, rt, ⟨fun k i hk hi e1 => ?_, fun c d hc hd hcd => ?_⟩, vb, vn, vz, IP_dq ip ha hb eb⟩
  · show sh (sQ u 1) a (q - 1) i = oJ K (sh (sA v 11) a (q - 1) i) ∧ sh (sB u 0) a (q - 1) i = sh (sB v 1) a (q - 1) i
    rw [sh_at _ _ _ _ hi, sh_at _ _ _ _ hi, sh_at _ _ _ _ hi, sh_at _ _ _ _ hi]
    exact rl _ (by split <;> omega)
  · have e1' : sh (sA v 11) a (q - 1) k = iN i := e1
    rw [sh_at _ _ _ _ hk] at e1'
    exact vq.1 _ i (by split <;> omega) hi e1'
  · have hcd' : sh (sA v 11) a (q - 1) c = sh (sA v 11) a (q - 1) d := hcd
    rw [sh_at _ _ _ _ hc, sh_at _ _ _ _ hd] at hcd'
    have := vq.2 _ _ (by split <;> omega) (by split <;> omega) hcd'
    split at this <;> split at this <;> omega
/-- who has left it stands in it no more -/
theorem deq_no {a b : Nat} (vq : vQ j q v) (ha : a < q) (eb : sA v 11 a = iN b) : ∀ k, k < q - 1 → sA (mDq (tI v 6 (iN (q - 1))) a (q - 1)) 11 k ≠ iN b := by
  intro k hk e1
  have e1' : sh (sA v 11) a (q - 1) k = iN b := e1
  rw [sh_at _ _ _ _ hk, ← eb] at e1'
  have := vq.2 _ _ (by split <;> omega) ha e1'
  split at this <;> omega
theorem IP_rw {a : Nat} (hI : IP n j 0 w q e x g v) (ha : a < w) (ho : ∀ i, i < j → sA v 9 a = iN i → sA v 4 i ≠ 2) : IP n j 0 (w - 1) q e x g (mRw (tI v 3 (iN (w - 1))) a (w - 1)) := by
  obtain ⟨bb, ⟨b1, b3, b6, b7, b10⟩, c, d, f, gx, k1, k2, k0, kt, kc, kd⟩ := hI
  have hw5 := bb.2.1
  refine ⟨⟨bb.1, by omega, bb.2.2.1, bb.2.2.2⟩, ⟨b1, rfl, b6, b7, b10⟩, fun i hi => ?_, d, f, gx, k1, fun i hi e2 => ?_, k0, fun f' hf => by omega, kc, ⟨kd.1, kd.2.1, fun z => ?_, kd.2.2.2⟩⟩
  · show sh (sA v 9) a (w - 1) i < 0 ∨ ∃ b, b < j ∧ sh (sA v 9) a (w - 1) i = iN b
    rw [sh_at _ _ _ _ hi]
    exact c _ (by split <;> omega)
  · rcases k2 i hi e2 with ⟨k', hk, ek⟩ | ⟨f', hf, ef⟩
    · refine Or.inl ?_
      by_cases hka : k' < a
      · refine ⟨k', by omega, ?_⟩
        show sh (sA v 9) a (w - 1) k' = iN i
        rw [sh_lo hka]; exact ek
      · have hne : k' ≠ a := fun z => ho i hi (z ▸ ek) e2
        refine ⟨k' - 1, by omega, ?_⟩
        show sh (sA v 9) a (w - 1) (k' - 1) = iN i
        rw [sh_in (by omega) (by omega), show k' - 1 + 1 = k' by omega]; exact ek
    · omega
  · show dB n (sh (sB v 0) a (w - 1) z)
    unfold sh
    split
    · exact kd.2.2.1 _
    · exact kd.2.2.1 _
def xDis (u : gS) (a c : Nat) : gS := tQ (tI (fQ u 0 (sh (sQ u 0) a (c - 1))) 2 (iN (c - 1))) 0 (c - 1) (some (aW u a))
/-- where a worker stood before -/
def pi5 (a w i : Nat) : Nat := if i < a then i else if i < w - 1 then i + 1 else if i = w - 1 then a else i
theorem xDis_Q {a i : Nat} (hw : w ≤ 5) (ha : a < w) (rp : RP K u) : sQ (xDis u a w) 0 i = sQ u 0 (pi5 a w i) := by
  show sQ (tQ (tI (fQ u 0 (sh (sQ u 0) a (w - 1))) 2 (iN (w - 1))) 0 (w - 1) (some (aW u a))) 0 i = _
  rw [sQ_tQ, if_pos rfl]
  unfold pi5
  by_cases h1 : i = w - 1
  · rw [if_pos h1, if_neg (by omega), if_neg (by omega), if_pos h1]; exact (rp.1 a (by omega)).1.symm
  · rw [if_neg h1, if_neg h1]
    show sh (sQ u 0) a (w - 1) i = _
    by_cases h2 : i < a
    · rw [if_pos h2, sh_lo h2]
    · rw [if_neg h2]
      by_cases h3 : i < w - 1
      · rw [if_pos h3, sh_in (by omega) h3]
      · rw [if_neg h3, sh_hi (by omega)]
theorem RR_rw {a : Nat} (h : RR n B KMv K j 0 w q e x x0 g u v) (ha : a < w) (ho : ∀ i, i < j → sA v 9 a = iN i → sA v 4 i ≠ 2) : RR n B KMv K j 0 (w - 1) q e x x0 g (xDis u a w) (mRw (tI v 3 (iN (w - 1))) a (w - 1)) := by
  obtain ⟨rk, rs, rz, r0, r1, r2, r3, rp, rw_, rl, rt, vq, vb, vn, vz, ip⟩ := h
  have hw := ip.1.2.1
  have hQ : ∀ i, sQ (xDis u a w) 0 i = sQ u 0 (pi5 a w i) := fun i => xDis_Q hw ha rp
  have hW : ∀ i, aW (xDis u a w) i = aW u (pi5 a w i) := fun i => by unfold aW; rw [hQ]
  have p5 : ∀ i, i < 5 → pi5 a w i < 5 := fun i hi => by unfold pi5; split <;> (try split) <;> (try split) <;> omega
  have pw : ∀ i, i < w - 1 → pi5 a w i = if i < a then i else i + 1 := fun i hi => by
    unfold pi5
    by_cases h1 : i < a
    · rw [if_pos h1, if_pos h1]
    · rw [if_neg h1, if_neg h1, if_pos hi]
  refine ⟨rk, rs, ⟨rfl, rz.2.1, rz.2.2⟩, r0, r1, r2, r3, ⟨fun i hi => ?_, fun c d hc hd hcd => ?_⟩, fun i hi => ?_, rl, rt, vq, ⟨fun k i hk hi e1 => ?_, fun c d hc hd hn hcd => ?_⟩, ?_, vz, IP_rw ip ha ho⟩
  · rw [hQ, hW]; exact rp.1 _ (p5 i hi)
  · rw [hW, hW] at hcd
    have := rp.2 _ _ (p5 c hc) (p5 d hd) hcd
    unfold pi5 at this
    split at this <;> (try split at this) <;> (try split at this) <;> (try split at this) <;> (try split at this) <;> (try split at this) <;> omega
  · rw [hW, pw i hi]
    show sQ u 4 _ = oJ K (sh (sA v 9) a (w - 1) i) ∧ sA u 3 _ = sh (sA v 10) a (w - 1) i ∧ (sh (sA v 9) a (w - 1) i < 0 → sB u 3 _ = sh (sB v 0) a (w - 1) i)
    rw [sh_at _ _ _ _ hi, sh_at _ _ _ _ hi, sh_at _ _ _ _ hi]
    exact rw_ _ (by split <;> omega)
  · have e1' : sh (sA v 9) a (w - 1) k = iN i := e1
    rw [sh_at _ _ _ _ hk] at e1'
    exact vb.1 _ i (by split <;> omega) hi e1'
  · have hcd' : sh (sA v 9) a (w - 1) c = sh (sA v 9) a (w - 1) d := hcd
    have hn' : ¬ sh (sA v 9) a (w - 1) c < 0 := hn
    rw [sh_at _ _ _ _ hc, sh_at _ _ _ _ hd] at hcd'
    rw [sh_at _ _ _ _ hc] at hn'
    have := vb.2 _ _ (by split <;> omega) (by split <;> omega) hn' hcd'
    split at this <;> split at this <;> omega
  · obtain ⟨c, e4', hc, h8, hs⟩ := vn
    refine ⟨c, e4', hc, fun i hi => ?_, fun k d hkd hd => ?_⟩
    · show ∃ z, z < c ∧ sh (sA v 8) a (w - 1) i = iN z
      rw [sh_at _ _ _ _ hi]
      exact h8 _ (by split <;> omega)
    · show sh (sA v 8) a (w - 1) k < sh (sA v 8) a (w - 1) d
      rw [sh_at _ _ _ _ (by omega), sh_at _ _ _ _ hd]
      exact hs _ _ (by split <;> split <;> omega) (by split <;> omega)
end RRD
