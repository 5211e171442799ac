/-! exact results: what a method that shifts leaves behind, as one state -/
def sh {α : Type} (f : Nat → α) (a i : Nat) : Nat → α := fun k => if a ≤ k ∧ k < i then f (k + 1) else f k
theorem sh_lo {α : Type} {f : Nat → α} {a i k : Nat} (h : k < a) : sh f a i k = f k := if_neg (by omega)
theorem sh_hi {α : Type} {f : Nat → α} {a i k : Nat} (h : i ≤ k) : sh f a i k = f k := if_neg (by omega)
theorem sh_in {α : Type} {f : Nat → α} {a i k : Nat} (h1 : a ≤ k) (h2 : k < i) : sh f a i k = f (k + 1) := if_pos ⟨h1, h2⟩
theorem sh_self {α : Type} (f : Nat → α) (a : Nat) : sh f a a = f := funext (fun k => if_neg (by omega))
theorem sh_step {α : Type} {f : Nat → α} {a i : Nat} (h : a ≤ i) : va_up (sh f a i) i (sh f a i (i + 1)) = sh f a (i + 1) := by
  funext k
  unfold va_up
  by_cases hk : k = i
  · rw [if_pos hk, hk, sh_hi (by omega), sh_in h (by omega)]
  · rw [if_neg hk]
    by_cases h1 : a ≤ k ∧ k < i
    · rw [sh_in h1.1 h1.2, sh_in h1.1 (by omega)]
    · unfold sh
      rw [if_neg h1, if_neg (by omega)]
/-- a whole row set anew -/
def fA (u : gS) (k : Nat) (F : Nat → Int32) : gS := (u.1, u.2.1, va_up u.2.2.1 k F, u.2.2.2)
def fB (u : gS) (k : Nat) (F : Nat → UInt64) : gS := (u.1, u.2.1, u.2.2.1, va_up u.2.2.2.1 k F, u.2.2.2.2)
def fQ (u : gS) (k : Nat) (F : Nat → Option Nat) : gS := (u.1, u.2.1, u.2.2.1, u.2.2.2.1, va_up u.2.2.2.2 k F)
theorem va_up2 {α : Type} (f : Nat → α) (k : Nat) (a b : α) : va_up (va_up f k a) k b = va_up f k b := by
  funext z
  unfold va_up
  by_cases h : z = k
  · rw [if_pos h, if_pos h]
  · rw [if_neg h, if_neg h, if_neg h]
theorem va_same {α : Type} (f : Nat → α) (k : Nat) : va_up f k (f k) = f := by
  funext z
  unfold va_up
  by_cases h : z = k
  · rw [if_pos h, h]
  · rw [if_neg h]
theorem tA_fA (u : gS) (k i : Nat) (F : Nat → Int32) (x : Int32) : tA (fA u k F) k i x = fA u k (va_up F i x) := by
  show (u.1, u.2.1, va_up (va_up u.2.2.1 k F) k (va_up (va_up u.2.2.1 k F k) i x), u.2.2.2) = _
  rw [va_up2, va_up_self]; rfl
theorem tB_fB (u : gS) (k i : Nat) (F : Nat → UInt64) (x : UInt64) : tB (fB u k F) k i x = fB u k (va_up F i x) := by
  show (u.1, u.2.1, u.2.2.1, va_up (va_up u.2.2.2.1 k F) k (va_up (va_up u.2.2.2.1 k F k) i x), u.2.2.2.2) = _
  rw [va_up2, va_up_self]; rfl
theorem tQ_fQ (u : gS) (k i : Nat) (F : Nat → Option Nat) (x : Option Nat) : tQ (fQ u k F) k i x = fQ u k (va_up F i x) := by
  show (u.1, u.2.1, u.2.2.1, u.2.2.2.1, va_up (va_up u.2.2.2.2 k F) k (va_up (va_up u.2.2.2.2 k F k) i x)) = _
  rw [va_up2, va_up_self]; rfl
theorem fA_self (u : gS) (k : Nat) : fA u k (sA u k) = u := by
  show (u.1, u.2.1, va_up u.2.2.1 k (u.2.2.1 k), u.2.2.2) = u
  rw [va_same]
theorem fB_self (u : gS) (k : Nat) : fB u k (sB u k) = u := by
  show (u.1, u.2.1, u.2.2.1, va_up u.2.2.2.1 k (u.2.2.2.1 k), u.2.2.2.2) = u
  rw [va_same]
theorem fQ_self (u : gS) (k : Nat) : fQ u k (sQ u k) = u := by
  show (u.1, u.2.1, u.2.2.1, u.2.2.2.1, va_up u.2.2.2.2 k (u.2.2.2.2 k)) = u
  rw [va_same]
theorem tB_fQ (u : gS) (k m i : Nat) (F : Nat → Option Nat) (x : UInt64) : tB (fQ u k F) m i x = fQ (tB u m i x) k F := rfl
theorem tQ_fB (u : gS) (k m i : Nat) (F : Nat → UInt64) (x : Option Nat) : tQ (fB u k F) m i x = fB (tQ u m i x) k F := rfl
theorem tB_fA (u : gS) (k m i : Nat) (F : Nat → Int32) (x : UInt64) : tB (fA u k F) m i x = fA (tB u m i x) k F := rfl
theorem tA_fB (u : gS) (k m i : Nat) (F : Nat → UInt64) (x : Int32) : tA (fB u k F) m i x = fB (tA u m i x) k F := rfl
/-- the queue without place a, up to i -/
def xDq (u : gS) (a i : Nat) : gS := fB (fQ u 1 (sh (sQ u 1) a i)) 0 (sh (sB u 0) a i)
theorem xDq_step {u : gS} {a i : Nat} (h : a ≤ i) : tB (tQ (xDq u a i) 1 i (sQ (xDq u a i) 1 (i + 1))) 0 i (sB (tQ (xDq u a i) 1 i (sQ (xDq u a i) 1 (i + 1))) 0 (i + 1)) = xDq u a (i + 1) := by
  show tB (tQ (fB (fQ u 1 (sh (sQ u 1) a i)) 0 (sh (sB u 0) a i)) 1 i (sh (sQ u 1) a i (i + 1))) 0 i (sh (sB u 0) a i (i + 1)) = _
  rw [tQ_fB, tQ_fQ, tB_fB, sh_step h, sh_step h]; rfl
section EX
variable {K : KX} {u : gS}
/-- the class: a job leaves the queue -/
theorem e_lineRemove {post : Option Nat → gS → Prop} {a c : Nat} (hc : c ≤ 4) (e : sI u 4 = iN c) (ha : a < c) (hl : ∀ i, i < c → ∀ y, sQ u 1 i = some y → y ∈ K.2.2.1) (k : post (sQ u 1 a) (tI (xDq u a (c - 1)) 4 (iN (c - 1)))) : wpX2_removeAt K post u (iN a) := by
  refine ⟨fun h => absurd h (iN_nneg (by omega)), fun _ => ⟨fun _ => ⟨iN_in (by omega) (by omega), fun r3 e3 => ?_⟩, fun h => absurd (by rw [e]; exact (iN_lt (by omega) (by omega)).mpr ha) h⟩⟩
  rw [iN_nat (by omega)] at e3
  have key : ∀ d i, i + d + 1 = c → a ≤ i → wpX2_removeAt_23 K post (d + 1) (iN a) r3 (iN i) (xDq u a i) := by
    intro d
    induction d with
    | zero =>
      intro i hi hai
      have ev : sI (xDq u a i) 4 = iN c := e
      refine ⟨fun _ u5 e5 => ?_, fun h => ?_⟩
      · rw [ev, iN_pred (by omega)] at e5
        subst e5
        rw [e3, show i = c - 1 by omega]; exact k
      · rw [ev, iN_pred (by omega)] at h
        have := x_c0 (by omega) (by omega) h; omega
    | succ d ih =>
      intro i hi hai
      have ev : sI (xDq u a i) 4 = iN c := e
      have hs : vp_in (iN i + 1) 4 := by rw [iN_succ]; exact iN_in (by omega) (by omega)
      have h0 : vp_in (iN i) 4 := iN_in (by omega) (by omega)
      refine ⟨fun h => ?_, fun h => ⟨hs, fun r6 e6 => ?_⟩⟩
      · rw [ev, iN_pred (by omega)] at h
        have := (iN_le (by omega) (by omega)).mp h; omega
      · rw [iN_succ, iN_nat (by omega)] at e6
        refine ⟨fun y9 h9 => ?_, h0, fun u8 e8 => ⟨hs, h0, fun u9 e9 x10 e10 => ?_⟩⟩
        · rw [e6] at h9
          have h9' : sh (sQ u 1) a i (i + 1) = some y9 := h9
          rw [sh_hi (by omega)] at h9'
          exact hl (i + 1) (by omega) y9 h9'
        · rw [iN_succ, iN_nat (by omega), iN_nat (by omega)] at e9
          rw [e6, iN_nat (by omega)] at e8
          subst e8 e9
          rw [e10, iN_succ, xDq_step hai]
          exact ih (i + 1) (by omega) (by omega)
  have h := key (c - 1 - a) a (by omega) (Nat.le_refl _)
  rw [show xDq u a a = u by unfold xDq; rw [sh_self, sh_self, fQ_self, fB_self]] at h
  exact ⟨_, h⟩
end EX
