/-! exact results of what shifts, and of the small ones -/
theorem va_comm {α : Type} {f : Nat → α} {k m : Nat} (h : k ≠ m) (a b : α) : va_up (va_up f k a) m b = va_up (va_up f m b) k a := by
  funext z
  unfold va_up
  by_cases h1 : z = m
  · have : z ≠ k := fun e => h (e.symm.trans h1)
    rw [if_pos h1, if_neg this, if_pos h1]
  · rw [if_neg h1]
    by_cases h2 : z = k
    · rw [if_pos h2, if_pos h2]
    · rw [if_neg h2, if_neg h2, if_neg h1]
theorem tB_fB' {u : gS} {k m i : Nat} {F : Nat → UInt64} {x : UInt64} (h : m ≠ k) : tB (fB u k F) m i x = fB (tB u m i x) k F := by
  show (u.1, u.2.1, u.2.2.1, va_up (va_up u.2.2.2.1 k F) m (va_up (va_up u.2.2.2.1 k F m) i x), u.2.2.2.2) = (u.1, u.2.1, u.2.2.1, va_up (va_up u.2.2.2.1 m (va_up (u.2.2.2.1 m) i x)) k F, u.2.2.2.2)
  rw [va_up_ne _ _ h, va_comm (fun e => h e.symm)]
theorem tA_fA' {u : gS} {k m i : Nat} {F : Nat → Int32} {x : Int32} (h : m ≠ k) : tA (fA u k F) m i x = fA (tA u m i x) k F := by
  show (u.1, u.2.1, va_up (va_up u.2.2.1 k F) m (va_up (va_up u.2.2.1 k F m) i x), u.2.2.2) = (u.1, u.2.1, va_up (va_up u.2.2.1 m (va_up (u.2.2.1 m) i x)) k F, u.2.2.2)
  rw [va_up_ne _ _ h, va_comm (fun e => h e.symm)]
/-- the clock without place a, up to i -/
def xTt (u : gS) (a i : Nat) : gS := fB (fB (fQ u 2 (sh (sQ u 2) a i)) 1 (sh (sB u 1) a i)) 2 (sh (sB u 2) a i)
theorem xTt_step {u : gS} {a i : Nat} (h : a ≤ i) : tB (tB (tQ (xTt u a i) 2 i (sh (sQ u 2) a i (i + 1))) 1 i (sh (sB u 1) a i (i + 1))) 2 i (sh (sB u 2) a i (i + 1)) = xTt u a (i + 1) := by
  unfold xTt
  rw [tQ_fB, tQ_fB, tQ_fQ, tB_fB' (by decide), tB_fB, tB_fB, sh_step h, sh_step h, sh_step h]
/-- the reference's queue without place a, up to i -/
def mDq (v : gS) (a i : Nat) : gS := fB (fA v 11 (sh (sA v 11) a i)) 1 (sh (sB v 1) a i)
theorem mDq_step {v : gS} {a i : Nat} (h : a ≤ i) : tB (tA (mDq v a i) 11 i (sh (sA v 11) a i (i + 1))) 1 i (sh (sB v 1) a i (i + 1)) = mDq v a (i + 1) := by
  unfold mDq
  rw [tA_fB, tA_fA, tB_fB, sh_step h, sh_step h]
/-- the reference's workers without place a, up to i -/
def mRw (v : gS) (a i : Nat) : gS := fB (fA (fA (fA v 8 (sh (sA v 8) a i)) 9 (sh (sA v 9) a i)) 10 (sh (sA v 10) a i)) 0 (sh (sB v 0) a i)
theorem mRw_step {v : gS} {a i : Nat} (h : a ≤ i) : tB (tA (tA (tA (mRw v a i) 8 i (sh (sA v 8) a i (i + 1))) 9 i (sh (sA v 9) a i (i + 1))) 10 i (sh (sA v 10) a i (i + 1))) 0 i (sh (sB v 0) a i (i + 1)) = mRw v a (i + 1) := by
  unfold mRw
  rw [tA_fB, tA_fA' (by decide), tA_fA' (by decide), tA_fA, tA_fB, tA_fA' (by decide), tA_fA, tA_fB, tA_fA, tB_fB, sh_step h, sh_step h, sh_step h, sh_step h]
/-- the reference's clock without place a, up to i -/
def mTt (v : gS) (a i : Nat) : gS := fB (fB (fA v 12 (sh (sA v 12) a i)) 2 (sh (sB v 2) a i)) 3 (sh (sB v 3) a i)
theorem mTt_step {v : gS} {a i : Nat} (h : a ≤ i) : tB (tB (tA (mTt v a i) 12 i (sh (sA v 12) a i (i + 1))) 2 i (sh (sB v 2) a i (i + 1))) 3 i (sh (sB v 3) a i (i + 1)) = mTt v a (i + 1) := by
  unfold mTt
  rw [tA_fB, tA_fB, tA_fA, tB_fB' (by decide), tB_fB, tB_fB, sh_step h, sh_step h, sh_step h]
section EY
variable {K : KX} {KMv : KM} {u v : gS}
theorem e_begin {post : gS → Prop} {y0 p1 : Nat} (k : post (tA (tQ (tA u 0 p1 2) 4 y0 (some p1)) 3 y0 (K.2.2.2.1 p1 4))) : wpX4_begin K post u y0 p1 := by
  intro u1 e1 u2 e2 u3 e3
  subst e1 e2 e3
  exact k
theorem e_rest {post : gS → Prop} {y0 : Nat} {p1 : UInt64} (k : post (tB (tA (tQ u 4 y0 none) 3 y0 0) 3 y0 p1)) : wpX4_rest K post u y0 p1 := by
  intro u1 e1 u2 e2 u3 e3
  subst e1 e2 e3
  exact k
theorem e_succeed {post : gS → Prop} {y0 : Nat} {p1 : Int32} (k : post (tA (tA u 0 y0 3) 1 y0 p1)) : wpX5_succeed K post u y0 p1 := by
  intro u1 e1 u2 e2
  subst e1 e2
  exact k
theorem e_fail {post : gS → Prop} {y0 : Nat} {p1 : Int32} (k : post (tA (tA u 0 y0 4) 2 y0 p1)) : wpX5_fail K post u y0 p1 := by
  intro u1 e1 u2 e2
  subst e1 e2
  exact k
theorem e_at {post : Option Nat → gS → Prop} {i c : Nat} (hc : c ≤ 5) (e : sI u 2 = iN c) (hi : i < c) (k : post (sQ u 0 i) u) : wpX1_at K post u (iN i) := by
  refine ⟨fun h => absurd h (iN_nneg (by omega)), fun _ => ⟨fun h => ?_, fun _ => ⟨iN_in (by omega) (by omega), fun r3 e3 => ?_⟩⟩⟩
  · rw [e] at h
    have := (iN_le (by omega) (by omega)).mp h; omega
  · rw [iN_nat (by omega)] at e3
    rw [e3]; exact k
theorem e_atN {post : Option Nat → gS → Prop} (k : post none u) : wpX1_at K post u (-1) := ⟨fun _ => k, fun h => absurd (by decide) h⟩
theorem e_dismiss {post : gS → Prop} {a c : Nat} (hc : c ≤ 5) (e : sI u 2 = iN c) (ha : a < c) (hw : ∀ i, i < 5 → sQ u 0 i = some (aW u i) ∧ aW u i ∈ K.2.1) (k : post (tQ (tI (fQ u 0 (sh (sQ u 0) a (c - 1))) 2 (iN (c - 1))) 0 (c - 1) (some (aW u a)))) : wpX1_dismiss K post u (iN a) := by
  refine e_at hc e ha ⟨fun h => ?_, fun w e3 => ?_⟩
  · rw [(hw a (by omega)).1] at h; cases h
  · have hwa : aW u a = w := Option.some.inj ((hw a (by omega)).1.symm.trans e3)
    subst hwa
    have key : ∀ d i, i + d + 1 = c → a ≤ i → wpX1_dismiss_13 K post (d + 1) (iN a) (aW u a) (iN i) (fQ u 0 (sh (sQ u 0) a i)) := by
      intro d
      induction d with
      | zero =>
        intro i hi hai
        have ev : sI (fQ u 0 (sh (sQ u 0) a i)) 2 = iN c := e
        refine ⟨fun _ u5 e5 => ⟨(hw a (by omega)).2, ?_⟩, fun h => ?_⟩
        · rw [ev, iN_pred (by omega)] at e5
          subst e5
          refine ⟨iN_in (k := c - 1) (by omega) (by omega), fun u7 e7 => ?_⟩
          rw [show (sI (tI (fQ u 0 (sh (sQ u 0) a i)) 2 (iN (c - 1))) 2) = iN (c - 1) from rfl, iN_nat (by omega)] at e7
          subst e7
          rw [show i = c - 1 by omega]
          exact k
        · rw [ev, iN_pred (by omega)] at h
          have := x_c0 (by omega) (by omega) h; omega
      | succ d ih =>
        intro i hi hai
        have ev : sI (fQ u 0 (sh (sQ u 0) a i)) 2 = iN c := e
        refine ⟨fun h => ?_, fun h => ⟨by rw [iN_succ]; exact iN_in (by omega) (by omega), fun r8 e8 => ?_⟩⟩
        · rw [ev, iN_pred (by omega)] at h
          have := (iN_le (by omega) (by omega)).mp h; omega
        · rw [iN_succ, iN_nat (by omega)] at e8
          have e8' : r8 = sh (sQ u 0) a i (i + 1) := e8
          refine ⟨fun y9 h9 => ?_, iN_in (by omega) (by omega), fun u10 e10 x11 e11 => ?_⟩
          · rw [e8', sh_hi (by omega), (hw (i + 1) (by omega)).1] at h9
            cases h9
            exact (hw (i + 1) (by omega)).2
          · rw [e8', iN_nat (by omega), tQ_fQ, sh_step hai] at e10
            subst e10
            rw [e11, iN_succ]
            exact ih (i + 1) (by omega) (by omega)
    have h := key (c - 1 - a) a (by omega) (Nat.le_refl _)
    rw [sh_self, fQ_self] at h
    exact ⟨_, h⟩
theorem e_ttRemove {post : gS → Prop} {a c : Nat} (hc : c ≤ 10) (e : sI u 6 = iN c) (ha : a < c) (hl : ∀ i, i < c → ∀ y, sQ u 2 i = some y → y ∈ K.2.2.1) (k : post (tI (xTt u a (c - 1)) 6 (iN (c - 1)))) : wpX3_removeAt K post u (iN a) := by
  refine ⟨fun h => absurd h (iN_nneg (by omega)), fun _ => ⟨fun _ => ?_, fun h => absurd (by rw [e]; exact (iN_lt (by omega) (by omega)).mpr ha) h⟩⟩
  have key : ∀ d i, i + d + 1 = c → a ≤ i → wpX3_removeAt_15 K post (d + 1) (iN a) (iN i) (xTt u a i) := by
    intro d
    induction d with
    | zero =>
      intro i hi hai
      have ev : sI (xTt u a i) 6 = iN c := e
      refine ⟨fun _ u5 e5 => ?_, fun h => ?_⟩
      · rw [ev, iN_pred (by omega)] at e5
        subst e5
        rw [show i = c - 1 by omega]; exact k
      · rw [ev, iN_pred (by omega)] at h
        have := x_c0 (by omega) (by omega) h; omega
    | succ d ih =>
      intro i hi hai
      have ev : sI (xTt u a i) 6 = iN c := e
      have hs : vp_in (iN i + 1) 10 := by rw [iN_succ]; exact iN_in (by omega) (by omega)
      have h0 : vp_in (iN i) 10 := iN_in (by omega) (by omega)
      refine ⟨fun h => ?_, fun h => ⟨hs, fun r6 e6 => ?_⟩⟩
      · rw [ev, iN_pred (by omega)] at h
        have := (iN_le (by omega) (by omega)).mp h; omega
      · rw [iN_succ, iN_nat (by omega)] at e6
        have e6' : r6 = sh (sQ u 2) a i (i + 1) := e6
        refine ⟨fun y9 h9 => ?_, h0, fun u7 e7 => ⟨hs, h0, fun u8 e8 => ⟨hs, h0, fun u9 e9 x10 e10 => ?_⟩⟩⟩
        · rw [e6', sh_hi (by omega)] at h9
          exact hl (i + 1) (by omega) y9 h9
        · rw [iN_nat (by omega), e6'] at e7
          rw [iN_succ, iN_nat (by omega), iN_nat (by omega)] at e8 e9
          have e9' : u9 = xTt u a (i + 1) := by rw [← xTt_step hai, e9, e8, e7]; rfl
          rw [e10, iN_succ, e9']
          exact ih (i + 1) (by omega) (by omega)
  have h := key (c - 1 - a) a (by omega) (Nat.le_refl _)
  rw [show xTt u a a = u by unfold xTt; rw [sh_self, sh_self, sh_self, fQ_self, fB_self, fB_self]] at h
  exact ⟨_, h⟩
/-! the reference's -/
theorem f_dequeue {post : Int32 → gS → Prop} {a q : Nat} (hq : q ≤ 4) (e : sI v 6 = iN q) (ha : a < q) (k : post (sA v 11 a) (mDq (tI v 6 (iN (q - 1))) a (q - 1))) : wpM6_dequeue KMv post v (iN a) := by
  refine ⟨iN_in (by omega) (by omega), fun x1 e1 u2 e2 => ?_⟩
  rw [iN_nat (by omega)] at e1
  rw [e, iN_pred (by omega)] at e2
  subst e2
  have key : ∀ d i, i + d = q - 1 → a ≤ i → wpM6_dequeue_19 KMv post (d + 1) (iN a) x1 (iN i) (mDq (tI v 6 (iN (q - 1))) a i) := by
    intro d
    induction d with
    | zero =>
      intro i hi hai
      refine ⟨fun _ => ?_, fun h => ?_⟩
      · rw [e1, show i = q - 1 by omega]; exact k
      · have h' : ¬ iN (q - 1) ≤ iN i := h
        have := x_c0 (by omega) (by omega) h'; omega
    | succ d ih =>
      intro i hi hai
      have hs : vp_in (iN i + 1) 8 := by rw [iN_succ]; exact iN_in (by omega) (by omega)
      have h0 : vp_in (iN i) 8 := iN_in (by omega) (by omega)
      refine ⟨fun h => ?_, fun h => ⟨hs, h0, fun u4 e4 => ⟨hs, h0, fun u5 e5 x6 e6 => ?_⟩⟩⟩
      · have h' : iN (q - 1) ≤ iN i := h
        have := (iN_le (by omega) (by omega)).mp h'; omega
      · rw [iN_succ, iN_nat (by omega), iN_nat (by omega)] at e4 e5
        have e5' : u5 = mDq (tI v 6 (iN (q - 1))) a (i + 1) := by rw [← mDq_step hai, e5, e4]; rfl
        rw [e6, iN_succ, e5']
        exact ih (i + 1) (by omega) (by omega)
  have h := key (q - 1 - a) a (by omega) (Nat.le_refl _)
  rw [show mDq (tI v 6 (iN (q - 1))) a a = tI v 6 (iN (q - 1)) by unfold mDq; rw [sh_self, sh_self, fA_self, fB_self]] at h
  exact ⟨_, h⟩
theorem f_removeWorker {post : gS → Prop} {a w : Nat} (hw : w ≤ 5) (e : sI v 3 = iN w) (ha : a < w) (k : post (mRw (tI v 3 (iN (w - 1))) a (w - 1))) : wpM6_removeWorker KMv post v (iN a) := by
  intro u2 e2
  rw [e, iN_pred (by omega)] at e2
  subst e2
  have key : ∀ d i, i + d = w - 1 → a ≤ i → wpM6_removeWorker_12 KMv post (d + 1) (iN a) (iN i) (mRw (tI v 3 (iN (w - 1))) a i) := by
    intro d
    induction d with
    | zero =>
      intro i hi hai
      refine ⟨fun _ => ?_, fun h => ?_⟩
      · rw [show i = w - 1 by omega]; exact k
      · have h' : ¬ iN (w - 1) ≤ iN i := h
        have := x_c0 (by omega) (by omega) h'; omega
    | succ d ih =>
      intro i hi hai
      have hs : vp_in (iN i + 1) 8 := by rw [iN_succ]; exact iN_in (by omega) (by omega)
      have h0 : vp_in (iN i) 8 := iN_in (by omega) (by omega)
      refine ⟨fun h => ?_, fun h => ⟨hs, h0, fun u3 e3 => ⟨hs, h0, fun u4 e4 => ⟨hs, h0, fun u5 e5 => ⟨hs, h0, fun u6 e6 x7 e7 => ?_⟩⟩⟩⟩⟩
      · have h' : iN (w - 1) ≤ iN i := h
        have := (iN_le (by omega) (by omega)).mp h'; omega
      · rw [iN_succ, iN_nat (by omega), iN_nat (by omega)] at e3 e4 e5 e6
        have e6' : u6 = mRw (tI v 3 (iN (w - 1))) a (i + 1) := by rw [← mRw_step hai, e6, e5, e4, e3]; rfl
        rw [e7, iN_succ, e6']
        exact ih (i + 1) (by omega) (by omega)
  have h := key (w - 1 - a) a (by omega) (Nat.le_refl _)
  rw [show mRw (tI v 3 (iN (w - 1))) a a = tI v 3 (iN (w - 1)) by unfold mRw; rw [sh_self, sh_self, sh_self, sh_self, fA_self, fA_self, fA_self, fB_self]] at h
  exact ⟨_, h⟩
end EY
