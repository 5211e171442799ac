/-! class and reference: the deed of a job that is no FORK: both DONE with the same result, or both FAILED alike -/
def JO (KMv : KM) (K : KX) (u v : gS) (T y : Nat) : Prop :=
  (∃ r : Int32, (∀ adm post p2, xTail K adm post (aA K y) p2 (tA (tA u 0 (aA K y) 3) 1 (aA K y) r) → wpX0_performAndEnd K adm post u (aA K y) p2) ∧ (∀ post, post (tA (tA (tA v 14 T 2) 4 y 3) 6 y r) → wpM6_performOne KMv post v (iN T))) ∨
  (∃ c : Int32, (∀ adm post p2, xTail K adm post (aA K y) p2 (tA (tA u 0 (aA K y) 4) 2 (aA K y) c) → wpX0_performAndEnd K adm post u (aA K y) p2) ∧ (∀ post, post (tA (tA (tA v 14 T 2) 4 y 4) 7 y c) → wpM6_performOne KMv post v (iN T)))
section OP
variable {n : Int} {B : Nat} {KMv : KM} {K : KX} {j t w q e x x0 g T y : Nat} {u v : gS}
theorem f_head {post : gS → Prop} (hT : T < 60) (hy : y < 24) (hd : sA v 13 T = iN y) (k : ∀ (_ : vp_in (iN T) 60) (_ : vp_in (iN y) 24), wpM6_performOne KMv post v (iN T)) : wpM6_performOne KMv post v (iN T) := k (iN_in (by omega) (by omega)) (iN_in (by omega) (by omega))
theorem j_op015 (h : RK KMv K j v) (hT : T < 60) (hy : y < j) (hj : j ≤ 24) (hd : sA v 13 T = iN y) (hk : sA v 0 y = 0 ∨ sA v 0 y = 1 ∨ (¬ sA v 0 y = 0 ∧ ¬ sA v 0 y = 1 ∧ ¬ sA v 0 y = 2 ∧ ¬ sA v 0 y = 3 ∧ ¬ sA v 0 y = 4)) : JO KMv K u v T y := by
  obtain ⟨_, _, _, k1, ka, kb, _⟩ := h.2 y hy
  have vT : vp_in (iN T) 60 := iN_in (by omega) (by omega)
  have vy : vp_in (iN y) 24 := iN_in (by omega) (by omega)
  have hy24 : y < 24 := by omega
  rcases hk with h0 | h1 | ⟨n0, n1, n2, n3, n4⟩
  · exact Or.inl ⟨sA v 1 y, fun adm post p2 k => e_perf0 (k1.trans h0) (e_succeed (by rw [ka]; exact k)), fun post k => f_one0 hT hy24 hd h0 k⟩
  · have n0 : ¬ sA v 0 y = 0 := by rw [h1]; decide
    have n0' : ¬ K.2.2.2.1 (aA K y) 1 = 0 := by rw [k1]; exact n0
    by_cases hb : sA v 2 y = 0
    · refine Or.inr ⟨1, fun adm post p2 k => e_perf1 n0' (k1.trans h1) ⟨fun z => absurd (kb.trans hb) z, fun _ => e_fail k⟩, fun post k => ?_⟩
      refine ⟨vT, fun x1 ex1 => ⟨vT, fun u2 eu2 => ?_⟩⟩
      rw [iN_nat (by omega)] at ex1 eu2
      rw [hd] at ex1
      subst ex1 eu2
      rw [iN_nat (by omega)]
      exact ⟨vy, fun z => absurd z n0, fun _ => ⟨fun _ => ⟨vy, fun z => absurd hb z, fun _ => m_broke hy24 k⟩, fun z => absurd h1 z⟩⟩
    · have hb' : ¬ K.2.2.2.1 (aA K y) 3 = 0 := by rw [kb]; exact hb
      refine Or.inl ⟨sA v 1 y / sA v 2 y, fun adm post p2 k => e_perf1 n0' (k1.trans h1) ⟨fun _ => ⟨hb', e_succeed (by rw [ka, kb]; exact k)⟩, fun z => absurd z hb'⟩, fun post k => ?_⟩
      refine ⟨vT, fun x1 ex1 => ⟨vT, fun u2 eu2 => ?_⟩⟩
      rw [iN_nat (by omega)] at ex1 eu2
      rw [hd] at ex1
      subst ex1 eu2
      rw [iN_nat (by omega)]
      exact ⟨vy, fun z => absurd z n0, fun _ => ⟨fun _ => ⟨vy, fun _ => ⟨vy, vy, hb, m_done hy24 k⟩, fun z => absurd z hb⟩, fun z => absurd h1 z⟩⟩
  · refine Or.inr ⟨5, fun adm post p2 k => e_perf5 (by rw [k1]; exact n0) (by rw [k1]; exact n1) (by rw [k1]; exact n2) (by rw [k1]; exact n3) (by rw [k1]; exact n4) (e_fail k), fun post k => ?_⟩
    refine ⟨vT, fun x1 ex1 => ⟨vT, fun u2 eu2 => ?_⟩⟩
    rw [iN_nat (by omega)] at ex1 eu2
    rw [hd] at ex1
    subst ex1 eu2
    rw [iN_nat (by omega)]
    exact ⟨vy, fun z => absurd z n0, fun _ => ⟨fun z => absurd z n1, fun _ => ⟨fun z => absurd z n2, fun _ => ⟨fun z => absurd z n3, fun _ => ⟨fun z => absurd z n4, fun _ => m_broke hy24 k⟩⟩⟩⟩⟩
end OP
