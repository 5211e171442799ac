/-! the class: a job is performed and ends, kind by kind -/
/-- what stands behind the job's own deed -/
def xTail (K : KX) (adm : KX → (gS → Prop) → gS → Nat → Int32 → Prop) (post : gS → Prop) (p1 : Nat) (p2 : Int32) (u3 : gS) : Prop :=
  ∀ u4 : gS, u4 = tI u3 1 ((sI u3 1) + 1) → (∀ r5 : Option Nat, r5 = sQ u4 3 p1 → (((¬ (sA u4 0 p1) = 3 → (post u4)) ∧ ((sA u4 0 p1) = 3 → (((r5 = none → (post u4)) ∧ (∀ y7 : Nat, r5 = some y7 → (y7 ∈ K.2.2.1 ∧ (((¬ (sA u4 0 y7) = 0 → (post u4)) ∧ ((sA u4 0 y7) = 0 → (adm K (fun (u11 : gS) => post u11) u4 y7 (p2 + 1)))))))))))))
section PF
variable {K : KX} {KMv : KM} {u v : gS} {adm : KX → (gS → Prop) → gS → Nat → Int32 → Prop} {post : gS → Prop} {p1 : Nat} {p2 : Int32}
theorem e_perf0 (h0 : K.2.2.2.1 p1 1 = 0) (h : wpX5_succeed K (xTail K adm post p1 p2) u p1 (K.2.2.2.1 p1 2)) : wpX0_performAndEnd K adm post u p1 p2 := ⟨fun _ => h, fun z => absurd h0 z⟩
theorem e_perf1 (h0 : ¬ K.2.2.2.1 p1 1 = 0) (h1 : K.2.2.2.1 p1 1 = 1) (h : wpX5_divide K (xTail K adm post p1 p2) u p1) : wpX0_performAndEnd K adm post u p1 p2 := ⟨fun z => absurd z h0, fun _ => ⟨fun _ => h, fun z => absurd h1 z⟩⟩
theorem e_perf2 (h0 : ¬ K.2.2.2.1 p1 1 = 0) (h1 : ¬ K.2.2.2.1 p1 1 = 1) (h2 : K.2.2.2.1 p1 1 = 2) (h : wpX5_pick K (xTail K adm post p1 p2) u p1) : wpX0_performAndEnd K adm post u p1 p2 := ⟨fun z => absurd z h0, fun _ => ⟨fun z => absurd z h1, fun _ => ⟨fun _ => h, fun z => absurd h2 z⟩⟩⟩
theorem e_perf3 (h0 : ¬ K.2.2.2.1 p1 1 = 0) (h1 : ¬ K.2.2.2.1 p1 1 = 1) (h2 : ¬ K.2.2.2.1 p1 1 = 2) (h3 : K.2.2.2.1 p1 1 = 3) (h : wpX0_sum K (xTail K adm post p1 p2) u p1) : wpX0_performAndEnd K adm post u p1 p2 := ⟨fun z => absurd z h0, fun _ => ⟨fun z => absurd z h1, fun _ => ⟨fun z => absurd z h2, fun _ => ⟨fun _ => h, fun z => absurd h3 z⟩⟩⟩⟩
theorem e_perf4 (h0 : ¬ K.2.2.2.1 p1 1 = 0) (h1 : ¬ K.2.2.2.1 p1 1 = 1) (h2 : ¬ K.2.2.2.1 p1 1 = 2) (h3 : ¬ K.2.2.2.1 p1 1 = 3) (h4 : K.2.2.2.1 p1 1 = 4) (h : wpX0_fork K adm (xTail K adm post p1 p2) u p1 p2) : wpX0_performAndEnd K adm post u p1 p2 := ⟨fun z => absurd z h0, fun _ => ⟨fun z => absurd z h1, fun _ => ⟨fun z => absurd z h2, fun _ => ⟨fun z => absurd z h3, fun _ => ⟨fun _ => h, fun z => absurd h4 z⟩⟩⟩⟩⟩
theorem e_perf5 (h0 : ¬ K.2.2.2.1 p1 1 = 0) (h1 : ¬ K.2.2.2.1 p1 1 = 1) (h2 : ¬ K.2.2.2.1 p1 1 = 2) (h3 : ¬ K.2.2.2.1 p1 1 = 3) (h4 : ¬ K.2.2.2.1 p1 1 = 4) (h : wpX5_fail K (xTail K adm post p1 p2) u p1 5) : wpX0_performAndEnd K adm post u p1 p2 := ⟨fun z => absurd z h0, fun _ => ⟨fun z => absurd z h1, fun _ => ⟨fun z => absurd z h2, fun _ => ⟨fun z => absurd z h3, fun _ => ⟨fun z => absurd z h4, fun _ => h⟩⟩⟩⟩⟩
/-! the reference's, kind by kind; the frame is T, its job y -/
variable {T y : Nat}
theorem f_one0 (hT : T < 60) (hy : y < 24) (hd : sA v 13 T = iN y) (h0 : sA v 0 y = 0) (k : post (tA (tA (tA v 14 T 2) 4 y 3) 6 y (sA v 1 y))) : wpM6_performOne KMv post v (iN T) := by
  have vT : vp_in (iN T) 60 := iN_in (by omega) (by omega)
  have vy : vp_in (iN y) 24 := iN_in (by omega) (by omega)
  refine ⟨vT, fun x1 ex1 => ⟨vT, fun u2 eu2 => ?_⟩⟩
  rw [iN_nat (by omega)] at ex1 eu2
  rw [hd] at ex1
  subst ex1 eu2
  rw [iN_nat (by omega)]
  exact ⟨vy, fun _ => ⟨vy, m_done hy k⟩, fun z => absurd h0 z⟩
end PF
