/-! class and reference: what a job does that is no FORK -/
section OPS
variable {n : Int} {B : Nat} {KMv : KM} {K : KX} {j t w q e x x0 g : Nat} {u v : gS}
theorem e_findI {post : Option Nat → gS → Prop} {i : Nat} (h : RK KMv K j v) (hj : j ≤ 24) (hi : i < j) (k : post (some (aA K i)) u) : wpX0_find K post u (iN i) := by
  refine ⟨fun z => absurd z (iN_nneg (by omega)), fun _ => ⟨fun z => ?_, fun _ => ⟨iN_in (by omega) (by omega), fun r3 e3 => ?_⟩⟩⟩
  · rw [h.1.2.2.2.2] at z
    have := (iN_le (by omega) (by omega)).mp z; omega
  · rw [iN_nat (by omega), (h.2 i hi).1] at e3
    rw [e3]; exact k
theorem e_findN {post : Option Nat → gS → Prop} {x : Int32} (h : RK KMv K j v) (hx : x < 0 ∨ iN j ≤ x) (k : post none u) : wpX0_find K post u x := by
  refine ⟨fun _ => k, fun z => ⟨fun _ => k, fun z2 => ?_⟩⟩
  rw [h.1.2.2.2.2] at z2
  rcases hx with hx | hx
  · exact absurd hx z
  · exact absurd hx z2
/-- a number is that of a job, or it isn't -/
theorem num_or (hj : j ≤ 24) (x : Int32) : (∃ i, i < j ∧ x = iN i) ∨ (x < 0 ∨ iN j ≤ x) := by
  by_cases h0 : x < 0
  · exact Or.inr (Or.inl h0)
  · by_cases h1 : iN j ≤ x
    · exact Or.inr (Or.inr h1)
    · obtain ⟨i, e, hi⟩ := iN_of2 (n := j) (Int32.not_lt.mp h0) (Int32.not_le.mp h1) (by omega)
      exact Or.inl ⟨i, hi, e⟩
/-- is it DONE? the reference's own question -/
theorem f_isDone {post : Int32 → gS → Prop} {x : Int32} (hj : j ≤ 24) (e1 : sI v 1 = iN j) (ky : ∀ i, i < j → x = iN i → sA v 4 i = 3 → post 1 v) (kn : ((x < 0 ∨ iN j ≤ x) ∨ ∃ i, i < j ∧ x = iN i ∧ sA v 4 i ≠ 3) → post 0 v) : wpM6_isDone KMv post v x := by
  refine m_out (fun hx => ⟨fun _ => ⟨rfl, kn (Or.inl ?_)⟩, fun z => absurd z (by decide)⟩) (fun z0 z1 => ⟨fun z => absurd rfl z, fun _ => ?_⟩)
  · rw [e1] at hx
    rcases hx with hx | hx
    · exact Or.inl hx
    · exact Or.inr (Int32.not_lt.mp hx)
  · rw [e1] at z1
    obtain ⟨i, ei, hi⟩ := iN_of2 z0 z1 (by omega)
    refine ⟨by rw [ei]; exact iN_in (by omega) (by omega), fun z => ⟨rfl, kn (Or.inr ⟨i, hi, ei, ?_⟩)⟩, fun z => ⟨rfl, ky i hi ei ?_⟩⟩
    · rw [ei, iN_nat (by omega)] at z; exact z
    · rw [ei, iN_nat (by omega)] at z; exact z
end OPS
