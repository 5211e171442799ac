/-! class and reference: a job that is submitted -/
/-- who is DONE or FAILED stays so -/
def St (v v' : gS) : Prop := ∀ i, sA v 4 i = 3 ∨ sA v 4 i = 4 → sA v' 4 i = sA v 4 i
theorem St.trans {a b c : gS} (h1 : St a b) (h2 : St b c) : St a c := fun i hi => by
  have e := h1 i hi
  rw [← e]
  exact h2 i (by rw [e]; exact hi)
theorem St_st {v v' : gS} {y : Nat} {s : Int32} (h3 : sA v 4 y ≠ 3) (h4 : sA v 4 y ≠ 4) (e4 : ∀ i, sA v' 4 i = sA (tA v 4 y s) 4 i) : St v v' := fun i hi => by
  rw [e4, tA_ne (fun z => by subst z; rcases hi with h | h; exact h3 h; exact h4 h)]
section PLC
variable {n : Int} {B : Nat} {KMv : KM} {K : KX} {j t w q e x x0 g : Nat} {u v : gS}
theorem f_place {post : Int32 → gS → Prop} {y s : Nat} (hw : w ≤ 5) (e3 : sI v 3 = iN w) (hs : s ≤ w) (hb : s < w → sA v 9 s < 0) (hm : ∀ i, i < s → ¬ sA v 9 i < 0) (k : mTail KMv post (iN y) (iN s) v) : wpM6_place KMv post v (iN y) := by
  have key : ∀ d i, i + d = s → wpM6_place_2 KMv post (d + 1) (iN y) (iN i) v := by
    intro d
    induction d with
    | zero =>
      intro i hi
      have his : i = s := by omega
      subst his
      refine ⟨fun _ => k, fun hh => ⟨iN_in (by omega) (by omega), fun _ => k, fun h9 => ?_⟩⟩
      rw [e3] at hh
      have := x_c0 (by omega) (by omega) hh
      rw [iN_nat (by omega)] at h9
      exact absurd (hb this) h9
    | succ d ih =>
      intro i hi
      refine ⟨fun hh => ?_, fun _ => ⟨iN_in (by omega) (by omega), fun h9 => ?_, fun _ x69 e69 => ?_⟩⟩
      · rw [e3] at hh
        have := (iN_le (by omega) (by omega)).mp hh; omega
      · rw [iN_nat (by omega)] at h9
        exact absurd h9 (hm i (by omega))
      · rw [e69, iN_succ]; exact ih (i + 1) (by omega)
  exact ⟨s + 1, key s 0 (by omega)⟩
/-- the first that is idle, on both sides -/
theorem j_idle (h : RR n B KMv K j t w q e x x0 g u v) : ∃ s, s ≤ w ∧ (s < w → sA v 9 s < 0) ∧ (∀ i, i < s → ¬ sA v 9 i < 0) ∧ (∀ post : Option Nat → gS → Prop, post (if s < w then some (aW u s) else none) u → wpX1_firstIdle K post u) := by
  have ip := RR_ip h
  have hw := ip.1.2.1
  have hj := ip.1.1
  have rp := h.2.2.2.2.2.2.2.1
  have rw_ := h.2.2.2.2.2.2.2.2.1
  have e2 : sI u 2 = iN w := h.2.2.1.1
  have hn : ∀ i, i < w → (sQ u 4 (aW u i) = none ↔ sA v 9 i < 0) := fun i hi => by
    rw [(rw_ i hi).1]
    unfold oJ
    by_cases h9 : sA v 9 i < 0
    · rw [if_pos h9]; exact ⟨fun _ => h9, fun _ => rfl⟩
    · rw [if_neg h9]; exact ⟨fun z => (by cases z), fun z => absurd z h9⟩
  rcases scan_spec (P := fun i => decide (sQ u 4 (aW u i) = none)) w 0 with ⟨h1, h2⟩ | ⟨k, h1, h2, h3, h4, h5⟩
  · refine ⟨w, Nat.le_refl _, fun z => by omega, fun i hi h9 => ?_, fun post k => e_placeOf hw e2 (fun i hi => rp.1 i (by omega)) ?_⟩
    · have := h2 i (by omega) (by omega)
      have h' : ¬ sQ u 4 (aW u i) = none := of_decide_eq_false this
      exact h' ((hn i hi).mpr h9)
    · rw [if_neg (by omega)] at k
      rw [h1]; exact e_atN k
  · refine ⟨k, by omega, fun _ => (hn k (by omega)).mp (of_decide_eq_true h4), fun i hi h9 => ?_, fun post kk => e_placeOf hw e2 (fun i hi => rp.1 i (by omega)) ?_⟩
    · have h' : ¬ sQ u 4 (aW u i) = none := of_decide_eq_false (h5 i (by omega) hi)
      exact h' ((hn i (by omega)).mpr h9)
    · rw [if_pos (show k < w by omega)] at kk
      rw [h3]
      refine e_at hw e2 (by omega) ?_
      rw [(rp.1 k (by omega)).1]; exact kk
end PLC
