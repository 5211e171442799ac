/-- the five workers are five -/
theorem w_dist {A : Nat → Prop} {ad : Nat → Nat} {ca : Nat → ClassId} {K : KX} {u : gS} {w : Nat → Nat} (hK : K.2.1 = [w 0, w 1, w 2, w 3, w 4]) (hd : va_D A (wX ad ca K u)) : ∀ a b : Nat, a < 5 → b < 5 → w a = w b → a = b := by
  have hp : ∀ a, a < 5 → (wX ad ca K u)[11 + a]? = some (w a, xW K u (w a)) := by
    intro a ha
    unfold wX
    rw [hK]
    rcases (show a = 0 ∨ a = 1 ∨ a = 2 ∨ a = 3 ∨ a = 4 by omega) with rfl | rfl | rfl | rfl | rfl <;> rfl
  intro a b ha hb e
  have := hd.1 (11 + a) (11 + b) _ _ (hp a ha) (hp b hb) e
  omega
