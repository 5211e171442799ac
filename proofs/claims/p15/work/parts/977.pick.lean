section OP2
variable {KMv : KM} {K : KX} {j T y : Nat} {u v : gS}
/-- PICK -/
theorem j_op2 (h : RK KMv K j v) (hT : T < 60) (hy : y < j) (hj : j ≤ 24) (hd : sA v 13 T = iN y) (h2 : sA v 0 y = 2) : JO KMv K u v T y := by
  obtain ⟨_, _, _, k1, ka, kb, _⟩ := h.2 y hy
  have vT : vp_in (iN T) 60 := iN_in (by omega) (by omega)
  have vy : vp_in (iN y) 24 := iN_in (by omega) (by omega)
  have hy24 : y < 24 := by omega
  have n0 : ¬ sA v 0 y = 0 := by rw [h2]; decide
  have n1 : ¬ sA v 0 y = 1 := by rw [h2]; decide
  have n0' : ¬ K.2.2.2.1 (aA K y) 1 = 0 := by rw [k1]; exact n0
  have n1' : ¬ K.2.2.2.1 (aA K y) 1 = 1 := by rw [k1]; exact n1
  have h2' := k1.trans h2
  have head : ∀ post : gS → Prop, wpM6_out KMv (fun (r13 : Int32) (u14 : gS) => ((r13 = 0 → (vp_in (iN y) 24 ∧ (((¬ (sA u14 1 y) = 0 → (vp_in (iN y) 24 ∧ (((¬ (sA u14 1 y) = 1 → (vp_in (iN y) 24 ∧ (((¬ (sA u14 1 y) = 2 → (vp_in (iN y) 24 ∧ (((¬ (sA u14 1 y) = 3 → (vp_in (iN y) 24 ∧ (wpM6_done KMv (fun (u21 : gS) => post u21) u14 (iN y) (sA u14 2 y)))) ∧ ((sA u14 1 y) = 3 → (wpM6_done KMv (fun (u23 : gS) => post u23) u14 (iN y) 7)))))) ∧ ((sA u14 1 y) = 2 → (wpM6_done KMv (fun (u25 : gS) => post u25) u14 (iN y) 5)))))) ∧ ((sA u14 1 y) = 1 → (wpM6_done KMv (fun (u27 : gS) => post u27) u14 (iN y) 3)))))) ∧ ((sA u14 1 y) = 0 → (wpM6_done KMv (fun (u29 : gS) => post u29) u14 (iN y) 2)))))) ∧ (¬ r13 = 0 → (wpM6_broke KMv (fun (u31 : gS) => post u31) u14 (iN y) 2)))) (tA v 14 T 2) (sA v 1 y) 5 → wpM6_performOne KMv post v (iN T) := fun post k => by
    refine ⟨vT, fun x1 ex1 => ⟨vT, fun u2 eu2 => ?_⟩⟩
    rw [iN_nat (by omega)] at ex1 eu2
    rw [hd] at ex1
    subst ex1 eu2
    rw [iN_nat (by omega)]
    exact ⟨vy, fun z => absurd z n0, fun _ => ⟨fun z => absurd z n1, fun _ => ⟨fun _ => ⟨vy, k⟩, fun z => absurd h2 z⟩⟩⟩
  have inx : ∀ i : Nat, i < 4 → sA v 1 y = iN i → (∀ adm post p2, xTail K adm post (aA K y) p2 (tA (tA u 0 (aA K y) 3) 1 (aA K y) (xPicks i)) → wpX0_performAndEnd K adm post u (aA K y) p2) := fun i hi ei adm post p2 k => by
    have ka' := ka.trans ei
    refine e_perf2 n0' n1' h2' ⟨fun z => ?_, fun _ => ⟨fun z => ?_, fun _ => ⟨by rw [ka']; exact iN_in hi (by omega), e_succeed (by rw [ka', iN_nat (by omega)]; exact k)⟩⟩⟩
    · rw [ka'] at z; exact absurd z (iN_nneg (by omega))
    · rw [ka'] at z
      have := (iN_le (a := 4) (b := i) (by omega) (by omega)).mp z; omega
  have inm : ∀ i : Nat, i < 4 → sA v 1 y = iN i → (∀ post, post (tA (tA (tA v 14 T 2) 4 y 3) 6 y (xPicks i)) → wpM6_performOne KMv post v (iN T)) := fun i hi ei post k => by
    refine head post (m_out (fun hx => ?_) (fun _ _ => ⟨fun _ => ⟨vy, ?_⟩, fun z => absurd rfl z⟩))
    · rw [ei] at hx
      rcases hx with hx | hx
      · exact absurd hx (iN_nneg (by omega))
      · exact absurd ((iN_lt (a := i) (b := 5) (by omega) (by omega)).mpr (by omega)) hx
    · show (¬ sA v 1 y = 0 → _) ∧ (sA v 1 y = 0 → _)
      rcases (show i = 0 ∨ i = 1 ∨ i = 2 ∨ i = 3 by omega) with rfl | rfl | rfl | rfl
      · exact ⟨fun z => absurd ei z, fun _ => m_done hy24 k⟩
      · exact ⟨fun _ => ⟨vy, fun z => absurd ei z, fun _ => m_done hy24 k⟩, fun z => absurd (ei.symm.trans z) (by decide)⟩
      · exact ⟨fun _ => ⟨vy, fun _ => ⟨vy, fun z => absurd ei z, fun _ => m_done hy24 k⟩, fun z => absurd (ei.symm.trans z) (by decide)⟩, fun z => absurd (ei.symm.trans z) (by decide)⟩
      · exact ⟨fun _ => ⟨vy, fun _ => ⟨vy, fun _ => ⟨vy, fun z => absurd ei z, fun _ => m_done hy24 k⟩, fun z => absurd (ei.symm.trans z) (by decide)⟩, fun z => absurd (ei.symm.trans z) (by decide)⟩, fun z => absurd (ei.symm.trans z) (by decide)⟩
  rcases num_or (j := 4) (by omega) (sA v 1 y) with ⟨i, hi, ei⟩ | hout
  · exact Or.inl ⟨xPicks i, inx i hi ei, inm i hi ei⟩
  · by_cases h4 : sA v 1 y = 4
    · have ka' := ka.trans h4
      refine Or.inl ⟨sA v 2 y, fun adm post p2 k => e_perf2 n0' n1' h2' ⟨fun z => absurd z (by rw [ka']; decide), fun _ => ⟨fun _ => ⟨fun z => absurd ka' z, fun _ => e_succeed (by rw [kb]; exact k)⟩, fun z => absurd (by rw [ka']; decide) z⟩⟩, fun post k => head post (m_out (fun hx => ?_) (fun _ _ => ⟨fun _ => ⟨vy, fun _ => ⟨vy, fun _ => ⟨vy, fun _ => ⟨vy, fun _ => ⟨vy, m_done hy24 k⟩, fun z => absurd (h4.symm.trans z) (by decide)⟩, fun z => absurd (h4.symm.trans z) (by decide)⟩, fun z => absurd (h4.symm.trans z) (by decide)⟩, fun z => absurd (h4.symm.trans z) (by decide)⟩, fun z => absurd rfl z⟩))⟩
      rw [h4] at hx
      exact absurd hx (by decide)
    · have h4' : ¬ K.2.2.2.1 (aA K y) 2 = 4 := by rw [ka]; exact h4
      refine Or.inr ⟨2, fun adm post p2 k => e_perf2 n0' n1' h2' ⟨fun _ => ⟨fun _ => e_fail k, fun z => absurd z h4'⟩, fun z0 => ⟨fun _ => ⟨fun _ => e_fail k, fun z => absurd z h4'⟩, fun z1 => ?_⟩⟩, fun post k => head post (m_out (fun hx => ⟨fun z => absurd z (by decide), fun _ => m_broke hy24 k⟩) (fun z0 z1 => ?_))⟩
      · rw [ka] at z0 z1
        rcases hout with z | z
        · exact absurd z z0
        · exact absurd z z1
      · exfalso
        obtain ⟨i, ei, hi⟩ := iN_of2 (n := 5) z0 z1 (by omega)
        rcases hout with z | z
        · rw [ei] at z; exact iN_nneg (by omega) z
        · rw [ei] at z h4
          have := (iN_le (by omega) (by omega)).mp z
          exact h4 (by rw [show i = 4 by omega]; rfl)
end OP2
