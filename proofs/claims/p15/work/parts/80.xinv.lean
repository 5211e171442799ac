/-! the class's state: what it keeps (enough that no call of it falls) -/
def iC (u : gS) : Prop := ∃ c : Nat, c ≤ 5 ∧ sI u 2 = iN c
def iL (K : KX) (u : gS) : Prop := ∃ c : Nat, c ≤ 4 ∧ sI u 4 = iN c ∧ ∀ i, i < c → ∃ q, q ∈ K.2.2.1 ∧ sQ u 1 i = some q
def iT (K : KX) (u : gS) : Prop := ∃ c : Nat, c ≤ 10 ∧ sI u 6 = iN c ∧ ∀ i, i < c → ∃ q, q ∈ K.2.2.1 ∧ sQ u 2 i = some q
def iW (K : KX) (u : gS) : Prop := ∀ i, i < 5 → ∃ w, w ∈ K.2.1 ∧ sQ u 0 i = some w
def iX (K : KX) (u : gS) : Prop := ∀ q y, sQ u 3 q = some y → y ∈ K.2.2.1
def iJ (K : KX) (u : gS) : Prop := ∀ w y, sQ u 4 w = some y → y ∈ K.2.2.1
def iD (n : Int) (u : gS) : Prop := dB n (sD u 0) ∧ dN (sD u 1) ∧ (∀ i, dB n (sB u 0 i)) ∧ (∀ i, dB n (sB u 1 i)) ∧ (∀ i, dB 1000 (sB u 2 i)) ∧ (∀ w, dB n (sB u 3 w))
def IX (n : Int) (K : KX) (u : gS) : Prop := iC u ∧ iL K u ∧ iT K u ∧ iW K u ∧ iX K u ∧ iJ K u ∧ iD n u
/-- of what stays -/
def KI (K : KX) : Prop := ∃ k : Nat, k ≤ 24 ∧ K.1 4 = iN k ∧ ∀ i, i < k → ∃ q, q ∈ K.2.2.1 ∧ K.2.2.2.2 i = some q
section IXS
variable {n : Int} {K : KX} {u : gS}
theorem IX_A {k i : Nat} {v : Int32} (h : IX n K u) : IX n K (tA u k i v) := h
theorem IX_I0 {v : Int32} (h : IX n K u) : IX n K (tI u 0 v) := h
theorem IX_I1 {v : Int32} (h : IX n K u) : IX n K (tI u 1 v) := h
theorem IX_I3 {v : Int32} (h : IX n K u) : IX n K (tI u 3 v) := h
theorem IX_I5 {v : Int32} (h : IX n K u) : IX n K (tI u 5 v) := h
theorem IX_I2 {c : Nat} (hc : c ≤ 5) (h : IX n K u) : IX n K (tI u 2 (iN c)) := ⟨⟨c, hc, rfl⟩, h.2⟩
theorem IX_Q4 {w : Nat} {v : Option Nat} (h : IX n K u) (hv : ∀ y, v = some y → y ∈ K.2.2.1) : IX n K (tQ u 4 w v) := by
  obtain ⟨h1, h2, h3, h4, h5, h6, h7⟩ := h
  refine ⟨h1, h2, h3, h4, h5, fun w' y e => ?_, h7⟩
  rw [sQ_tQ, if_pos rfl] at e
  by_cases hw : w' = w
  · rw [if_pos hw] at e; exact hv y e
  · rw [if_neg hw] at e; exact h6 w' y e
theorem IX_Q3 {w : Nat} {v : Option Nat} (h : IX n K u) (hv : ∀ y, v = some y → y ∈ K.2.2.1) : IX n K (tQ u 3 w v) := by
  obtain ⟨h1, h2, h3, h4, h5, h6, h7⟩ := h
  refine ⟨h1, h2, h3, h4, fun w' y e => ?_, h6, h7⟩
  rw [sQ_tQ, if_pos rfl] at e
  by_cases hw : w' = w
  · rw [if_pos hw] at e; exact hv y e
  · rw [if_neg hw] at e; exact h5 w' y e
theorem IX_Q0 {j w : Nat} (h : IX n K u) (hw : w ∈ K.2.1) : IX n K (tQ u 0 j (some w)) := by
  obtain ⟨h1, h2, h3, h4, h5, h6, h7⟩ := h
  refine ⟨h1, h2, h3, fun i hi => ?_, h5, h6, h7⟩
  by_cases hj : i = j
  · exact ⟨w, hw, by rw [sQ_tQ, if_pos rfl, if_pos hj]⟩
  · obtain ⟨w', q1, q2⟩ := h4 i hi
    exact ⟨w', q1, by rw [sQ_tQ, if_pos rfl, if_neg hj]; exact q2⟩
theorem IX_D0 {v : UInt64} (h : IX n K u) (hv : dB n v) : IX n K (tD u 0 v) := ⟨h.1, h.2.1, h.2.2.1, h.2.2.2.1, h.2.2.2.2.1, h.2.2.2.2.2.1, hv, h.2.2.2.2.2.2.2⟩
theorem IX_D1 {v : UInt64} (h : IX n K u) (hv : dN v) : IX n K (tD u 1 v) := ⟨h.1, h.2.1, h.2.2.1, h.2.2.2.1, h.2.2.2.2.1, h.2.2.2.2.2.1, h.2.2.2.2.2.2.1, hv, h.2.2.2.2.2.2.2.2⟩
theorem g_B {n : Int} {u : gS} {k i : Nat} {v : UInt64} (h : ∀ j, dB n (sB u k j)) (hv : dB n v) : ∀ j, dB n (sB (tB u k i v) k j) := fun j => by
  rw [sB_tB, if_pos rfl]
  by_cases hj : j = i
  · rw [if_pos hj]; exact hv
  · rw [if_neg hj]; exact h j
theorem IX_B0 {i : Nat} {v : UInt64} (h : IX n K u) (hv : dB n v) : IX n K (tB u 0 i v) := by
  obtain ⟨h1, h2, h3, h4, h5, h6, a, b, c, d, e, f⟩ := h
  exact ⟨h1, h2, h3, h4, h5, h6, a, b, g_B c hv, d, e, f⟩
theorem IX_B1 {i : Nat} {v : UInt64} (h : IX n K u) (hv : dB n v) : IX n K (tB u 1 i v) := by
  obtain ⟨h1, h2, h3, h4, h5, h6, a, b, c, d, e, f⟩ := h
  exact ⟨h1, h2, h3, h4, h5, h6, a, b, c, g_B d hv, e, f⟩
theorem IX_B2 {i : Nat} {v : UInt64} (h : IX n K u) (hv : dB 1000 v) : IX n K (tB u 2 i v) := by
  obtain ⟨h1, h2, h3, h4, h5, h6, a, b, c, d, e, f⟩ := h
  exact ⟨h1, h2, h3, h4, h5, h6, a, b, c, d, g_B e hv, f⟩
theorem IX_B3 {i : Nat} {v : UInt64} (h : IX n K u) (hv : dB n v) : IX n K (tB u 3 i v) := by
  obtain ⟨h1, h2, h3, h4, h5, h6, a, b, c, d, e, f⟩ := h
  exact ⟨h1, h2, h3, h4, h5, h6, a, b, c, d, e, g_B f hv⟩
theorem IX_mono {m : Int} (h : IX n K u) (hm : n ≤ m) : IX m K u := by
  obtain ⟨h1, h2, h3, h4, h5, h6, a, b, c, d, e, f⟩ := h
  exact ⟨h1, h2, h3, h4, h5, h6, dB_mono a hm, b, fun i => dB_mono (c i) hm, fun i => dB_mono (d i) hm, e, fun i => dB_mono (f i) hm⟩
theorem IX_L {c : Nat} (h : IX n K u) (hc : c ≤ 4) (hq : ∀ i, i < c → ∃ q, q ∈ K.2.2.1 ∧ sQ u 1 i = some q) : IX n K (tI u 4 (iN c)) := ⟨h.1, ⟨c, hc, rfl, hq⟩, h.2.2⟩
theorem IX_T {c : Nat} (h : IX n K u) (hc : c ≤ 10) (hq : ∀ i, i < c → ∃ q, q ∈ K.2.2.1 ∧ sQ u 2 i = some q) : IX n K (tI u 6 (iN c)) := ⟨h.1, h.2.1, ⟨c, hc, rfl, hq⟩, h.2.2.2⟩
theorem IX_Q1 {j q : Nat} (h : IX n K u) (hq : q ∈ K.2.2.1) : IX n K (tQ u 1 j (some q)) := by
  obtain ⟨h1, ⟨c, hc, e, hl⟩, h3⟩ := h
  refine ⟨h1, ⟨c, hc, e, fun i hi => ?_⟩, h3⟩
  by_cases hj : i = j
  · exact ⟨q, hq, by rw [sQ_tQ, if_pos rfl, if_pos hj]⟩
  · obtain ⟨w', q1, q2⟩ := hl i hi
    exact ⟨w', q1, by rw [sQ_tQ, if_pos rfl, if_neg hj]; exact q2⟩
theorem IX_Q2 {j q : Nat} (h : IX n K u) (hq : q ∈ K.2.2.1) : IX n K (tQ u 2 j (some q)) := by
  obtain ⟨h1, h2, ⟨c, hc, e, hl⟩, h3⟩ := h
  refine ⟨h1, h2, ⟨c, hc, e, fun i hi => ?_⟩, h3⟩
  by_cases hj : i = j
  · exact ⟨q, hq, by rw [sQ_tQ, if_pos rfl, if_pos hj]⟩
  · obtain ⟨w', q1, q2⟩ := hl i hi
    exact ⟨w', q1, by rw [sQ_tQ, if_pos rfl, if_neg hj]; exact q2⟩
end IXS
section XP
variable {n : Int} {K : KX} {u : gS}
theorem x_begin {post : gS → Prop} {y0 p1 : Nat} (hI : IX n K u) (hp : p1 ∈ K.2.2.1) (k : ∀ u', IX n K u' → sI u' 2 = sI u 2 → post u') : wpX4_begin K post u y0 p1 := by
  intro u1 e1 u2 e2 u3 e3
  subst e1 e2 e3
  exact k _ (IX_A (IX_Q4 (IX_A hI) (fun y h => by cases h; exact hp))) rfl
theorem x_rest {post : gS → Prop} {y0 : Nat} {p1 : UInt64} (hI : IX n K u) (hp : dB n p1) (k : ∀ u', IX n K u' → sI u' 2 = sI u 2 → post u') : wpX4_rest K post u y0 p1 := by
  intro u1 e1 u2 e2 u3 e3
  subst e1 e2 e3
  exact k _ (IX_B3 (IX_A (IX_Q4 hI (fun y h => by cases h))) hp) rfl
theorem x_nextNumber {post : Int32 → gS → Prop} {y0 : Nat} (hI : IX n K u) (k : ∀ r, post r u) : wpX5_nextNumber K post u y0 := by
  intro r1 e1
  refine ⟨fun _ => k _, fun y2 e2 r3 e3 => ?_⟩
  have h2 : sQ u 3 y0 = some y2 := by rw [← e1]; exact e2
  exact ⟨y2, by rw [e3]; exact h2, hI.2.2.2.2.1 y0 y2 h2, k _⟩
theorem x_succeed {post : gS → Prop} {y0 : Nat} {p1 : Int32} (hI : IX n K u) (k : ∀ u', IX n K u' → post u') : wpX5_succeed K post u y0 p1 := by
  intro u1 e1 u2 e2
  subst e1 e2
  exact k _ (IX_A (IX_A hI))
theorem x_fail {post : gS → Prop} {y0 : Nat} {p1 : Int32} (hI : IX n K u) (k : ∀ u', IX n K u' → post u') : wpX5_fail K post u y0 p1 := by
  intro u1 e1 u2 e2
  subst e1 e2
  exact k _ (IX_A (IX_A hI))
theorem x_divide {post : gS → Prop} {y0 : Nat} (hI : IX n K u) (k : ∀ u', IX n K u' → post u') : wpX5_divide K post u y0 :=
  ⟨fun h => ⟨h, x_succeed hI k⟩, fun _ => x_fail hI k⟩
theorem x_pick {post : gS → Prop} {y0 : Nat} (hI : IX n K u) (k : ∀ u', IX n K u' → post u') : wpX5_pick K post u y0 := by
  refine ⟨fun _ => ⟨fun _ => x_fail hI k, fun _ => x_succeed hI k⟩, fun h0 => ⟨fun _ => ⟨fun _ => x_fail hI k, fun _ => x_succeed hI k⟩, fun h4 => ⟨?_, x_succeed hI k⟩⟩⟩
  obtain ⟨j, e, hj⟩ := iN_of2 (n := 4) (Int32.not_lt.mp h0) (Int32.not_le.mp h4) (by omega)
  rw [e]
  exact iN_in hj (by omega)
/-- a place of the crew: nobody, or one of the workers -/
theorem x_at {post : Option Nat → gS → Prop} {p1 : Int32} (hI : IX n K u) (k : ∀ r, (∀ w, r = some w → w ∈ K.2.1 ∧ ∃ i c, p1 = iN i ∧ sI u 2 = iN c ∧ i < c ∧ c ≤ 5) → post r u) : wpX1_at K post u p1 := by
  refine ⟨fun _ => k none (fun w h => by cases h), fun h0 => ⟨fun _ => k none (fun w h => by cases h), fun h1 => ?_⟩⟩
  obtain ⟨c, hc, e⟩ := hI.1
  rw [e] at h1
  obtain ⟨j, ej, hj⟩ := iN_of2 (n := c) (Int32.not_lt.mp h0) (Int32.not_le.mp h1) (by omega)
  refine ⟨by rw [ej]; exact iN_in (by omega) (by omega), fun r3 e3 => k r3 (fun w hw => ?_)⟩
  rw [ej, iN_nat (by omega)] at e3
  obtain ⟨w', q1, q2⟩ := hI.2.2.2.1 j (by omega)
  have : w' = w := Option.some.inj (by rw [← q2, ← e3]; exact hw)
  exact ⟨this ▸ q1, j, c, ej, e, hj, hc⟩
theorem x_c0 {c : Nat} (hc : c < 2147483648) {i : Nat} (hi : i < 2147483648) (h : ¬ iN c ≤ iN i) : i < c := by
  have := mt (iN_le hc hi).mpr h
  omega
theorem x_placeOf {post : Int32 → gS → Prop} {p1 : Option Nat} (hI : IX n K u) (k : ∀ r, post r u) : wpX1_placeOf K post u p1 := by
  obtain ⟨c, hc, e⟩ := hI.1
  have key : ∀ d i, i + d = c → wpX1_placeOf_2 K post (d + 1) p1 (iN i) u := by
    intro d
    induction d with
    | zero =>
      intro i hi
      refine ⟨fun _ => k _, fun h => ?_⟩
      rw [e] at h
      have := x_c0 (by omega) (by omega) h; omega
    | succ d ih =>
      intro i hi
      refine ⟨fun _ => k _, fun h => ⟨iN_in (by omega) (by omega), fun r2 e2 => ?_⟩⟩
      rw [iN_nat (by omega)] at e2
      obtain ⟨w, q1, q2⟩ := hI.2.2.2.1 i (by omega)
      refine ⟨w, by rw [e2, q2], q1, fun r5 e5 => ⟨fun _ x7 e7 => ?_, fun _ => k _⟩⟩
      rw [e7, iN_succ]
      exact ih (i + 1) (by omega)
  exact ⟨c + 1, key c 0 (by omega)⟩
theorem x_firstIdle {post : Option Nat → gS → Prop} (hI : IX n K u) (k : ∀ r, (∀ w, r = some w → w ∈ K.2.1) → post r u) : wpX1_firstIdle K post u :=
  x_placeOf hI (fun r => x_at hI (fun r' h => k r' (fun w e => (h w e).1)))
theorem x_busy {post : Int32 → gS → Prop} (hI : IX n K u) (k : ∀ r, post r u) : wpX1_busy K post u := by
  obtain ⟨c, hc, e⟩ := hI.1
  have key : ∀ d i l1, i + d = c → wpX1_busy_4 K post (d + 1) l1 (iN i) u := by
    intro d
    induction d with
    | zero =>
      intro i l1 hi
      refine ⟨fun _ => k _, fun h => ?_⟩
      rw [e] at h
      have := x_c0 (by omega) (by omega) h; omega
    | succ d ih =>
      intro i l1 hi
      refine ⟨fun _ => k _, fun h => ⟨iN_in (by omega) (by omega), fun r2 e2 => ?_⟩⟩
      rw [iN_nat (by omega)] at e2
      obtain ⟨w, q1, q2⟩ := hI.2.2.2.1 i (by omega)
      refine ⟨w, by rw [e2, q2], q1, fun r5 e5 => ⟨fun _ x7 e7 => ?_, fun _ _ x8 e8 x9 e9 => ?_⟩⟩
      · rw [e7, iN_succ]; exact ih (i + 1) _ (by omega)
      · rw [e9, iN_succ]; exact ih (i + 1) _ (by omega)
  exact ⟨c + 1, key c 0 0 (by omega)⟩
theorem x_hire {post : gS → Prop} {p1 : Nat} (hI : IX n K u) (hp : p1 ∈ K.2.2.1) (k : ∀ u', IX n K u' → post u') : wpX1_hire K post u p1 := by
  obtain ⟨c, hc, e⟩ := id hI.1
  refine ⟨fun h => ?_, fun _ => k u hI⟩
  rw [e] at h
  have h5 : c < 5 := (iN_lt (a := c) (b := 5) (by omega) (by omega)).mp h
  refine ⟨by rw [e]; exact iN_in h5 (by omega), fun r2 e2 => ?_⟩
  rw [e, iN_nat (by omega)] at e2
  obtain ⟨w, q1, q2⟩ := hI.2.2.2.1 c (by omega)
  refine ⟨w, by rw [e2, q2], q1, x_begin hI hp (fun u6 h6 e6 u7 e7 u8 e8 => ?_)⟩
  subst e7 e8
  rw [e6, e, iN_succ]
  exact k _ (IX_I3 (IX_I2 (by omega) h6))
theorem x_dismiss {post : gS → Prop} {p1 : Int32} (hI : IX n K u) (k : ∀ u', IX n K u' → post u') : wpX1_dismiss K post u p1 := by
  refine x_at hI (fun r hr => ⟨fun _ => k u hI, fun w e3 => ?_⟩)
  obtain ⟨hw, i, c, ei, ec, hic, hc⟩ := hr w e3
  have key : ∀ d i v, i + d + 1 = c → IX n K v → sI v 2 = iN c → wpX1_dismiss_13 K post (d + 1) p1 w (iN i) v := by
    intro d
    induction d with
    | zero =>
      intro i v hi hv ev
      refine ⟨fun _ u5 e5 => ⟨hw, ?_⟩, fun h => ?_⟩
      · rw [ev, iN_pred (by omega)] at e5
        subst e5
        refine ⟨iN_in (k := c - 1) (by omega) (by omega), fun u7 e7 => ?_⟩
        subst e7
        exact k _ (IX_Q0 (IX_I2 (by omega) hv) hw)
      · rw [ev, iN_pred (by omega)] at h
        have := x_c0 (by omega) (by omega) h; omega
    | succ d ih =>
      intro i v hi hv ev
      refine ⟨fun h => ?_, fun h => ⟨by rw [iN_succ]; exact iN_in (by omega) (by omega), fun r8 e8 => ?_⟩⟩
      · rw [ev, iN_pred (by omega)] at h
        have := (iN_le (by omega) (by omega)).mp h; omega
      · rw [iN_succ, iN_nat (by omega)] at e8
        obtain ⟨w', q1, q2⟩ := hv.2.2.2.1 (i + 1) (by omega)
        refine ⟨fun y9 h9 => ?_, iN_in (by omega) (by omega), fun u10 e10 x11 e11 => ?_⟩
        · have : w' = y9 := Option.some.inj (by rw [← q2, ← e8]; exact h9)
          exact this ▸ q1
        · rw [e8, q2] at e10
          subst e10
          rw [e11, iN_succ]
          exact ih (i + 1) _ (by omega) (IX_Q0 hv q1) ev
  rw [ei]
  have := key (c - 1 - i) i u (by omega) hI ec
  rw [ei] at this
  exact ⟨_, this⟩
theorem x_cancelCrew {post : Int32 → gS → Prop} {p1 : UInt64} (hI : IX n K u) (hp : dB n p1) (k : ∀ r u', IX n K u' → post r u') : wpX1_cancelAll K post u p1 := by
  obtain ⟨c, hc, e⟩ := id hI.1
  have key : ∀ d i l3 v, i + d = c → IX n K v → sI v 2 = iN c → wpX1_cancelAll_5 K post (d + 1) p1 l3 (iN i) v := by
    intro d
    induction d with
    | zero =>
      intro i l3 v hi hv ev
      refine ⟨fun _ => k _ _ hv, fun h => ?_⟩
      rw [ev] at h
      have := x_c0 (by omega) (by omega) h; omega
    | succ d ih =>
      intro i l3 v hi hv ev
      refine ⟨fun _ => k _ _ hv, fun h => ⟨iN_in (by omega) (by omega), fun r2 e2 => ?_⟩⟩
      rw [iN_nat (by omega)] at e2
      obtain ⟨w, q1, q2⟩ := hv.2.2.2.1 i (by omega)
      refine ⟨w, by rw [e2, q2], q1, fun r5 e5 => ⟨fun _ x7 e7 => ?_, fun y6 h6 => ⟨hv.2.2.2.2.2.1 w y6 (by rw [← e5]; exact h6), fun u9 e9 => ⟨iN_in (by omega) (by omega), fun r10 e10 => ⟨w, ?_, q1, ?_⟩⟩⟩⟩⟩
      · rw [e7, iN_succ]; exact ih (i + 1) _ v (by omega) hv ev
      · subst e9
        rw [e10, iN_nat (by omega)]; exact q2
      · subst e9
        refine x_rest (IX_A hv) hp (fun u14 h14 e14 x15 e15 x16 e16 => ?_)
        rw [e16, iN_succ]
        exact ih (i + 1) _ u14 (by omega) h14 (by rw [e14]; exact ev)
  exact ⟨c + 1, key c 0 0 u (by omega) hI e⟩
theorem x_linePlace {post : Int32 → gS → Prop} {p1 : Option Nat} (hI : IX n K u) (k : ∀ r, post r u) : wpX2_placeOf K post u p1 := by
  obtain ⟨c, hc, e, hl⟩ := hI.2.1
  have key : ∀ d i, i + d = c → wpX2_placeOf_2 K post (d + 1) p1 (iN i) u := by
    intro d
    induction d with
    | zero =>
      intro i hi
      refine ⟨fun _ => k _, fun h => ?_⟩
      rw [e] at h
      have := x_c0 (by omega) (by omega) h; omega
    | succ d ih =>
      intro i hi
      refine ⟨fun _ => k _, fun h => ⟨iN_in (by omega) (by omega), fun r2 e2 => ⟨fun _ x4 e4 => ?_, fun _ => k _⟩⟩⟩
      rw [e4, iN_succ]
      exact ih (i + 1) (by omega)
  exact ⟨c + 1, key c 0 (by omega)⟩
theorem x_add {post : gS → Prop} {p1 : Nat} {p2 : UInt64} (hI : IX n K u) (hp : p1 ∈ K.2.2.1) (hd : dB n p2) (k : ∀ u', IX n K u' → post u') : wpX2_add K post u p1 p2 := by
  obtain ⟨c, hc, e, hl⟩ := id hI.2.1
  refine ⟨fun h u2 e2 => ?_, fun _ => k u hI⟩
  rw [e] at h
  have h4 : c < 4 := (iN_lt (a := c) (b := 4) (by omega) (by omega)).mp h
  subst e2
  have e' : sI (tA u 0 p1 1) 4 = iN c := e
  refine ⟨by rw [e']; exact iN_in h4 (by omega), fun u3 e3 => ?_⟩
  rw [e', iN_nat (by omega)] at e3
  subst e3
  have e' : sI (tQ (tA u 0 p1 1) 1 c (some p1)) 4 = iN c := e
  refine ⟨by rw [e']; exact iN_in h4 (by omega), fun u4 e4 u5 e5 => ?_⟩
  rw [e', iN_nat (by omega)] at e4
  subst e4
  have e' : sI (tB (tQ (tA u 0 p1 1) 1 c (some p1)) 0 c p2) 4 = iN c := e
  rw [e', iN_succ] at e5
  subst e5
  refine k _ (IX_L (IX_B0 (IX_Q1 (IX_A hI) hp) hd) (by omega) (fun i hi => ?_))
  show ∃ q, q ∈ K.2.2.1 ∧ sQ (tQ (tA u 0 p1 1) 1 c (some p1)) 1 i = some q
  by_cases hic : i = c
  · exact ⟨p1, hp, by rw [sQ_tQ, if_pos rfl, if_pos hic]⟩
  · obtain ⟨q, q1, q2⟩ := hl i (by omega)
    exact ⟨q, q1, by rw [sQ_tQ, if_pos rfl, if_neg hic]; exact q2⟩
theorem x_lineRemove {post : Option Nat → gS → Prop} {p1 : Int32} (hI : IX n K u) (k : ∀ r u', (∀ q, r = some q → q ∈ K.2.2.1) → IX n K u' → post r u') : wpX2_removeAt K post u p1 := by
  refine ⟨fun _ => k _ _ (fun q h => by cases h) hI, fun h0 => ⟨fun h1 => ?_, fun _ => k _ _ (fun q h => by cases h) hI⟩⟩
  obtain ⟨c, hc, e, hl⟩ := id hI.2.1
  rw [e] at h1
  obtain ⟨i, ei, hi⟩ := iN_of2 (n := c) (Int32.not_lt.mp h0) h1 (by omega)
  refine ⟨by rw [ei]; exact iN_in (by omega) (by omega), fun r3 e3 => ?_⟩
  rw [ei, iN_nat (by omega)] at e3
  obtain ⟨q, q1, q2⟩ := hl i hi
  rw [q2] at e3
  have key : ∀ d i v, i + d + 1 = c → IX n K v → sI v 4 = iN c → (∀ i, i < c → ∃ q, q ∈ K.2.2.1 ∧ sQ v 1 i = some q) → wpX2_removeAt_23 K post (d + 1) p1 r3 (iN i) v := by
    intro d
    induction d with
    | zero =>
      intro i v hi hv ev hlv
      refine ⟨fun _ u5 e5 => ?_, fun h => ?_⟩
      · rw [ev, iN_pred (by omega)] at e5
        subst e5
        exact k _ _ (fun q' h => by rw [e3] at h; cases h; exact q1) (IX_L hv (by omega) (fun j hj => hlv j (by omega)))
      · rw [ev, iN_pred (by omega)] at h
        have := x_c0 (by omega) (by omega) h; omega
    | succ d ih =>
      intro i v hi hv ev hlv
      refine ⟨fun h => ?_, fun h => ⟨by rw [iN_succ]; exact iN_in (by omega) (by omega), fun r6 e6 => ?_⟩⟩
      · rw [ev, iN_pred (by omega)] at h
        have := (iN_le (by omega) (by omega)).mp h; omega
      · rw [iN_succ, iN_nat (by omega)] at e6
        obtain ⟨w', p1', p2'⟩ := hlv (i + 1) (by omega)
        rw [p2'] at e6
        refine ⟨fun y9 h9 => by rw [e6] at h9; cases h9; exact p1', iN_in (by omega) (by omega), fun u8 e8 => ⟨by rw [iN_succ]; exact iN_in (by omega) (by omega), iN_in (by omega) (by omega), fun u9 e9 x10 e10 => ?_⟩⟩
        rw [e6, iN_nat (by omega)] at e8
        subst e8 e9
        rw [e10, iN_succ]
        have hv' := IX_Q1 (j := i) hv p1'
        refine ih (i + 1) _ (by omega) (IX_B0 hv' (hv'.2.2.2.2.2.2.2.2.1 _)) ev (fun j hj => ?_)
        show ∃ q, q ∈ K.2.2.1 ∧ sQ (tQ v 1 i (some w')) 1 j = some q
        by_cases hij : j = i
        · exact ⟨w', p1', by rw [sQ_tQ, if_pos rfl, if_pos hij]⟩
        · obtain ⟨q', a1, a2⟩ := hlv j hj
          exact ⟨q', a1, by rw [sQ_tQ, if_pos rfl, if_neg hij]; exact a2⟩
  rw [ei]
  have := key (c - 1 - i) i u (by omega) hI e hl
  rw [ei] at this
  exact ⟨_, this⟩
theorem x_takeFirst {post : Option Nat → gS → Prop} {p1 : UInt64} (hn : n ≤ 1000000000) (hI : IX n K u) (hp : dB n p1) (k : ∀ r u', (∀ q, r = some q → q ∈ K.2.2.1) → IX n K u' → post r u') : wpX2_takeFirst K post u p1 := by
  refine ⟨fun _ => ⟨iN_in (k := 0) (by omega) (by omega), ?_⟩, fun _ => k _ _ (fun q h => by cases h) hI⟩
  have hd : dB (n + n) (FP.dsub p1 (sB u 0 (0 : Int32).toNatClampNeg)) := dB_sub hp (hI.2.2.2.2.2.2.2.2.1 _) (by omega)
  have ha : dN (FP.dadd (sD u 1) (FP.dsub p1 (sB u 0 (0 : Int32).toNatClampNeg))) := dN_add hI.2.2.2.2.2.2.2.1 (dB_fin (by omega) hd)
  refine ⟨dN_n64 hd.1, dN_n64 ha, fun u2 e2 u3 e3 => ?_⟩
  subst e2 e3
  exact x_lineRemove (IX_I5 (IX_D1 hI ha)) k
theorem x_cancelLine {post : Int32 → gS → Prop} (hI : IX n K u) (k : ∀ r u', IX n K u' → post r u') : wpX2_cancelAll K post u := by
  intro x1 e1
  obtain ⟨c, hc, e, hl⟩ := id hI.2.1
  have key : ∀ d i v, i + d = c → IX n K v → sI v 4 = iN c → (∀ i, i < c → ∃ q, q ∈ K.2.2.1 ∧ sQ v 1 i = some q) → wpX2_cancelAll_7 K post (d + 1) x1 (iN i) v := by
    intro d
    induction d with
    | zero =>
      intro i v hi hv ev hlv
      refine ⟨fun _ u3 e3 => ?_, fun h => ?_⟩
      · subst e3
        exact k _ _ (IX_L (c := 0) hv (by omega) (fun j hj => by omega))
      · rw [ev] at h
        have := x_c0 (by omega) (by omega) h; omega
    | succ d ih =>
      intro i v hi hv ev hlv
      refine ⟨fun h => ?_, fun h => ⟨iN_in (by omega) (by omega), fun r4 e4 => ?_⟩⟩
      · rw [ev] at h
        have := (iN_le (by omega) (by omega)).mp h; omega
      · rw [iN_nat (by omega)] at e4
        obtain ⟨q, q1, q2⟩ := hlv i (by omega)
        refine ⟨q, by rw [e4, q2], q1, fun u7 e7 x8 e8 => ?_⟩
        subst e7
        rw [e8, iN_succ]
        exact ih (i + 1) _ (by omega) (IX_A hv) ev hlv
  exact ⟨c + 1, key c 0 u (by omega) hI e hl⟩
end XP
