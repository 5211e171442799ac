section OP3
variable {KMv : KM} {K : KX} {j T y : Nat} {u v : gS}
/-- SUM -/
theorem j_op3 (h : RK KMv K j v) (r0 : R0 K j u v) (r1 : R1 K j u v) (e1 : sI v 1 = iN j) (hT : T < 60) (hy : y < j) (hj : j ≤ 24) (hd : sA v 13 T = iN y) (h3 : sA v 0 y = 3) : JO KMv K u v T y := by
  obtain ⟨_, _, _, k1, ka, kb, _⟩ := h.2 y hy
  have vT : vp_in (iN T) 60 := iN_in (by omega) (by omega)
  have vy : vp_in (iN y) 24 := iN_in (by omega) (by omega)
  have hy24 : y < 24 := by omega
  have n0 : ¬ sA v 0 y = 0 := by rw [h3]; decide
  have n1 : ¬ sA v 0 y = 1 := by rw [h3]; decide
  have n2 : ¬ sA v 0 y = 2 := by rw [h3]; decide
  have cls : ∀ adm post p2, wpX0_sum K (xTail K adm post (aA K y) p2) u (aA K y) → wpX0_performAndEnd K adm post u (aA K y) p2 := fun adm post p2 k => e_perf3 (by rw [k1]; exact n0) (by rw [k1]; exact n1) (by rw [k1]; exact n2) (k1.trans h3) k
  have head : ∀ post : gS → Prop, wpM6_isDone KMv (fun (r33 : Int32) (u34 : gS) => ((r33 = 0 → (wpM6_broke KMv (fun (u37 : gS) => post u37) u34 (iN y) 3)) ∧ (¬ r33 = 0 → (vp_in (iN y) 24 ∧ (wpM6_isDone KMv (fun (r38 : Int32) (u39 : gS) => ((r38 = 0 → (wpM6_broke KMv (fun (u42 : gS) => post u42) u39 (iN y) 3)) ∧ (¬ r38 = 0 → (vp_in (iN y) 24 ∧ (vp_in (sA u39 1 y) 24 ∧ (vp_in (iN y) 24 ∧ (vp_in (sA u39 2 y) 24 ∧ (wpM6_done KMv (fun (u44 : gS) => post u44) u39 (iN y) ((sA u39 6 (sA u39 1 y).toNatClampNeg) + (sA u39 6 (sA u39 2 y).toNatClampNeg)))))))))) u34 (sA u34 2 y)))))) (tA v 14 T 2) (sA v 1 y) → wpM6_performOne KMv post v (iN T) := fun post k => by
    refine ⟨vT, fun x1 ex1 => ⟨vT, fun u2 eu2 => ?_⟩⟩
    rw [iN_nat (by omega)] at ex1 eu2
    rw [hd] at ex1
    subst ex1 eu2
    rw [iN_nat (by omega)]
    exact ⟨vy, fun z => absurd z n0, fun _ => ⟨fun z => absurd z n1, fun _ => ⟨fun z => absurd z n2, fun _ => ⟨fun _ => ⟨vy, k⟩, fun z => absurd h3 z⟩⟩⟩⟩
  have e1' : sI (tA v 14 T 2) 1 = iN j := e1
  by_cases dA : ∃ i, i < j ∧ sA v 1 y = iN i ∧ sA v 4 i = 3
  case neg =>
    refine Or.inr ⟨3, fun adm post p2 k => cls adm post p2 ?_, fun post k => head post (f_isDone hj e1' (fun i hi ei z => absurd ⟨i, hi, ei, z⟩ dA) (fun _ => ⟨fun _ => m_broke hy24 k, fun z => absurd rfl z⟩))⟩
    unfold wpX0_sum
    rw [ka, kb]
    rcases num_or hj (sA v 1 y) with ⟨i, hi, ei⟩ | ho
    · have hs : ¬ sA u 0 (aA K i) = 3 := fun z => dA ⟨i, hi, ei, by rw [← r0 i hi]; exact z⟩
      rw [ei]
      refine e_findI h hj hi ?_
      rcases num_or hj (sA v 2 y) with ⟨i2, hi2, ei2⟩ | ho2
      · rw [ei2]
        exact e_findI h hj hi2 ⟨fun z => (by cases z), fun y5 e5 => ⟨fun z => (by cases z), fun y8 e8 => by cases e5; cases e8; exact ⟨(h.2 i hi).2.1, fun _ => e_fail k, fun z => absurd z hs⟩⟩⟩
      · exact e_findN h ho2 ⟨fun z => (by cases z), fun y5 e5 => ⟨fun _ => e_fail k, fun y8 e8 => (by cases e8)⟩⟩
    · refine e_findN h ho ?_
      rcases num_or hj (sA v 2 y) with ⟨i2, hi2, ei2⟩ | ho2
      · rw [ei2]
        exact e_findI h hj hi2 ⟨fun _ => e_fail k, fun y5 e5 => (by cases e5)⟩
      · exact e_findN h ho2 ⟨fun _ => e_fail k, fun y5 e5 => (by cases e5)⟩
  case pos =>
  obtain ⟨i, hi, ei, si⟩ := dA
  have hs : sA u 0 (aA K i) = 3 := (r0 i hi).trans si
  by_cases dB' : ∃ i, i < j ∧ sA v 2 y = iN i ∧ sA v 4 i = 3
  case neg =>
    refine Or.inr ⟨3, fun adm post p2 k => cls adm post p2 ?_, fun post k => head post (f_isDone hj e1' (fun _ _ _ _ => ⟨fun z => absurd z (by decide), fun _ => ⟨vy, f_isDone hj e1' (fun i hi ei z => absurd ⟨i, hi, ei, z⟩ dB') (fun _ => ⟨fun _ => m_broke hy24 k, fun z => absurd rfl z⟩)⟩⟩) (fun _ => ⟨fun _ => m_broke hy24 k, fun z => absurd rfl z⟩))⟩
    unfold wpX0_sum
    rw [ka, kb, ei]
    refine e_findI h hj hi ?_
    rcases num_or hj (sA v 2 y) with ⟨i2, hi2, ei2⟩ | ho2
    · have hs2 : ¬ sA u 0 (aA K i2) = 3 := fun z => dB' ⟨i2, hi2, ei2, by rw [← r0 i2 hi2]; exact z⟩
      rw [ei2]
      exact e_findI h hj hi2 ⟨fun z => (by cases z), fun y5 e5 => ⟨fun z => (by cases z), fun y8 e8 => by cases e5; cases e8; exact ⟨(h.2 i hi).2.1, fun _ => e_fail k, fun _ => ⟨(h.2 i2 hi2).2.1, fun z => absurd z hs2, fun _ => e_fail k⟩⟩⟩⟩
    · exact e_findN h ho2 ⟨fun z => (by cases z), fun y5 e5 => ⟨fun _ => e_fail k, fun y8 e8 => (by cases e8)⟩⟩
  case pos =>
  obtain ⟨i2, hi2, ei2, si2⟩ := dB'
  have hs2 : sA u 0 (aA K i2) = 3 := (r0 i2 hi2).trans si2
  refine Or.inl ⟨sA v 6 i + sA v 6 i2, fun adm post p2 k => cls adm post p2 ?_, fun post k => head post (f_isDone hj e1' (fun _ _ _ _ => ⟨fun z => absurd z (by decide), fun _ => ⟨vy, f_isDone hj e1' (fun _ _ _ _ => ⟨fun z => absurd z (by decide), fun _ => ⟨vy, ?_, vy, ?_, ?_⟩⟩) (fun hx => ?_)⟩⟩) (fun hx => ?_))⟩
  · unfold wpX0_sum
    rw [ka, kb, ei, ei2]
    refine e_findI h hj hi (e_findI h hj hi2 ⟨fun z => (by cases z), fun y5 e5 => ⟨fun z => (by cases z), fun y8 e8 => by cases e5; cases e8; exact ⟨(h.2 i hi).2.1, fun z => absurd hs z, fun _ => ⟨(h.2 i2 hi2).2.1, fun _ => e_succeed (by rw [r1 i hi, r1 i2 hi2]; exact k), fun z => absurd hs2 z⟩⟩⟩⟩)
  · show vp_in (sA v 1 y) 24
    rw [ei]; exact iN_in (by omega) (by omega)
  · show vp_in (sA v 2 y) 24
    rw [ei2]; exact iN_in (by omega) (by omega)
  · show wpM6_done KMv (fun (u44 : gS) => post u44) (tA v 14 T 2) (iN y) ((sA v 6 (sA v 1 y).toNatClampNeg) + (sA v 6 (sA v 2 y).toNatClampNeg))
    rw [ei, ei2, iN_nat (by omega), iN_nat (by omega)]
    exact m_done hy24 k
  · exfalso
    have hx : (sA v 2 y < 0 ∨ iN j ≤ sA v 2 y) ∨ ∃ i, i < j ∧ sA v 2 y = iN i ∧ sA v 4 i ≠ 3 := hx
    rcases hx with (hx | hx) | ⟨i', hi', ei', ns⟩
    · rw [ei2] at hx; exact iN_nneg (by omega) hx
    · rw [ei2] at hx
      have := (iN_le (by omega) (by omega)).mp hx; omega
    · rw [ei2] at ei'
      have := (iN_inj (by omega) (by omega)).mp ei'
      exact ns (this ▸ si2)
  · exfalso
    rcases hx with (hx | hx) | ⟨i', hi', ei', ns⟩
    · rw [ei] at hx; exact iN_nneg (by omega) hx
    · rw [ei] at hx
      have := (iN_le (by omega) (by omega)).mp hx; omega
    · rw [ei] at ei'
      have := (iN_inj (by omega) (by omega)).mp ei'
      exact ns (this ▸ si)
end OP3
