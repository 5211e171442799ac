/-! exact answers: what a search finds, what a count counts, the first entry -/
def scan (P : Nat → Bool) : Nat → Nat → Int32
  | 0, _ => -1
  | d + 1, i => if P i = true then iN i else scan P d (i + 1)
theorem scan_congr {P Q : Nat → Bool} : ∀ d i, (∀ k, i ≤ k → k < i + d → P k = Q k) → scan P d i = scan Q d i
  | 0, _, _ => rfl
  | d + 1, i, h => by
    have h1 := scan_congr d (i + 1) (fun k h1 h2 => h k (by omega) (by omega))
    unfold scan
    rw [h i (Nat.le_refl _) (by omega), h1]
theorem scan_spec {P : Nat → Bool} : ∀ d i, (scan P d i = -1 ∧ ∀ k, i ≤ k → k < i + d → P k = false) ∨ ∃ k, i ≤ k ∧ k < i + d ∧ scan P d i = iN k ∧ P k = true ∧ ∀ m, i ≤ m → m < k → P m = false
  | 0, i => Or.inl ⟨rfl, fun k h1 h2 => by omega⟩
  | d + 1, i => by
    unfold scan
    by_cases h : P i = true
    · rw [if_pos h]
      exact Or.inr ⟨i, Nat.le_refl _, by omega, rfl, h, fun m h1 h2 => by omega⟩
    · rw [if_neg h]
      have hf : P i = false := by simpa using h
      rcases scan_spec (P := P) d (i + 1) with ⟨h1, h2⟩ | ⟨k, h1, h2, h3, h4, h5⟩
      · refine Or.inl ⟨h1, fun k a b => ?_⟩
        by_cases hk : k = i
        · rw [hk]; exact hf
        · exact h2 k (by omega) (by omega)
      · refine Or.inr ⟨k, by omega, by omega, h3, h4, fun m a b => ?_⟩
        by_cases hm : m = i
        · rw [hm]; exact hf
        · exact h5 m (by omega) b
def cntB (P : Nat → Bool) : Nat → Nat
  | 0 => 0
  | n + 1 => cntB P n + (if P n = true then 1 else 0)
theorem cntB_congr {P Q : Nat → Bool} : ∀ n, (∀ k, k < n → P k = Q k) → cntB P n = cntB Q n
  | 0, _ => rfl
  | n + 1, h => by
    have h1 := cntB_congr n (fun k hk => h k (by omega))
    unfold cntB
    rw [h n (by omega), h1]
theorem cntB_0 {P : Nat → Bool} : ∀ n, cntB P n = 0 → ∀ k, k < n → P k = false
  | 0, _, k, hk => by omega
  | n + 1, h, k, hk => by
    unfold cntB at h
    by_cases hp : P n = true
    · rw [if_pos hp] at h; omega
    · by_cases hkn : k = n
      · rw [hkn]; simpa using hp
      · exact cntB_0 n (by omega) k (by omega)
theorem cntB_le {P : Nat → Bool} : ∀ n, cntB P n ≤ n
  | 0 => Nat.le_refl _
  | n + 1 => by
    have := cntB_le (P := P) n
    unfold cntB
    split <;> omega
/-- the place of the least, the first of those -/
def mnF (t : Nat → UInt64) : Nat → Int32
  | 0 => -1
  | n + 1 => if mnF t n < 0 then iN n else if 0 ≤ Op.cmpValue (FP.dcmp (t n) (t (mnF t n).toNatClampNeg)) .g then mnF t n else iN n
theorem mnF_rng {t : Nat → UInt64} : ∀ n, n < 2147483648 → (n = 0 ∧ mnF t n = -1) ∨ ∃ k, k < n ∧ mnF t n = iN k
  | 0, _ => Or.inl ⟨rfl, rfl⟩
  | n + 1, hn => by
    refine Or.inr ?_
    unfold mnF
    by_cases h0 : mnF t n < 0
    · rw [if_pos h0]; exact ⟨n, by omega, rfl⟩
    · rw [if_neg h0]
      by_cases h1 : 0 ≤ Op.cmpValue (FP.dcmp (t n) (t (mnF t n).toNatClampNeg)) .g
      · rw [if_pos h1]
        rcases mnF_rng (t := t) n (by omega) with ⟨_, h⟩ | ⟨k, hk, e⟩
        · rw [h] at h0; exact absurd (by decide) h0
        · exact ⟨k, by omega, e⟩
      · rw [if_neg h1]; exact ⟨n, by omega, rfl⟩
theorem mnF_congr {t s : Nat → UInt64} : ∀ n, n < 2147483648 → (∀ k, k < n → t k = s k) → mnF t n = mnF s n
  | 0, _, _ => rfl
  | n + 1, hn, h => by
    have h1 := mnF_congr n (by omega) (fun k hk => h k (by omega))
    unfold mnF
    rw [h1]
    by_cases h0 : mnF s n < 0
    · rw [if_pos h0, if_pos h0]
    · rw [if_neg h0, if_neg h0]
      rcases mnF_rng (t := s) n (by omega) with ⟨_, h2⟩ | ⟨k, hk, e⟩
      · rw [h2] at h0; exact absurd (by decide) h0
      · rw [e, iN_nat (by omega), h n (by omega), h k (by omega)]
def aW (u : gS) (i : Nat) : Nat := (sQ u 0 i).getD 0
section SC
variable {K : KX} {KMv : KM} {u v : gS} {c : Nat} {post : Int32 → gS → Prop}
theorem e_placeOf {p1 : Option Nat} (hc : c ≤ 5) (e : sI u 2 = iN c) (hw : ∀ i, i < c → sQ u 0 i = some (aW u i) ∧ aW u i ∈ K.2.1) (k : post (scan (fun i => decide (sQ u 4 (aW u i) = p1)) c 0) u) : wpX1_placeOf K post u p1 := by
  have key : ∀ d i, i + d = c → post (scan (fun i => decide (sQ u 4 (aW u i) = p1)) d i) u → wpX1_placeOf_2 K post (d + 1) p1 (iN i) u := by
    intro d
    induction d with
    | zero =>
      intro i hi hk
      refine ⟨fun _ => hk, fun h => ?_⟩
      rw [e] at h
      have := x_c0 (by omega) (by omega) h; omega
    | succ d ih =>
      intro i hi hk
      refine ⟨fun h => ?_, fun h => ⟨iN_in (by omega) (by omega), fun r2 e2 => ?_⟩⟩
      · rw [e] at h
        have := (iN_le (by omega) (by omega)).mp h; omega
      · rw [iN_nat (by omega)] at e2
        obtain ⟨q2, q1⟩ := hw i (by omega)
        unfold scan at hk
        refine ⟨aW u i, by rw [e2, q2], q1, fun r5 e5 => ⟨fun h7 x7 e7 => ?_, fun h7 => ?_⟩⟩
        · rw [if_neg (by rw [← e5]; simpa using h7)] at hk
          rw [e7, iN_succ]
          exact ih (i + 1) (by omega) hk
        · rw [if_pos (by rw [← e5]; simpa using h7)] at hk
          exact hk
  exact ⟨c + 1, key c 0 (by omega) k⟩
theorem e_busy (hc : c ≤ 5) (e : sI u 2 = iN c) (hw : ∀ i, i < c → sQ u 0 i = some (aW u i) ∧ aW u i ∈ K.2.1) (k : post (iN (cntB (fun i => (sQ u 4 (aW u i)).isSome) c)) u) : wpX1_busy K post u := by
  have key : ∀ d i, i + d = c → wpX1_busy_4 K post (d + 1) (iN (cntB (fun i => (sQ u 4 (aW u i)).isSome) i)) (iN i) u := by
    intro d
    induction d with
    | zero =>
      intro i hi
      refine ⟨fun _ => by rw [show i = c by omega]; exact k, fun h => ?_⟩
      rw [e] at h
      have := x_c0 (by omega) (by omega) h; omega
    | succ d ih =>
      intro i hi
      refine ⟨fun h => ?_, fun h => ⟨iN_in (by omega) (by omega), fun r2 e2 => ?_⟩⟩
      · rw [e] at h
        have := (iN_le (by omega) (by omega)).mp h; omega
      · rw [iN_nat (by omega)] at e2
        obtain ⟨q2, q1⟩ := hw i (by omega)
        refine ⟨aW u i, by rw [e2, q2], q1, fun r5 e5 => ⟨fun h7 x7 e7 => ?_, fun y6 h6 x8 e8 x9 e9 => ?_⟩⟩
        · rw [e7, iN_succ]
          have := ih (i + 1) (by omega)
          rw [show cntB (fun i => (sQ u 4 (aW u i)).isSome) (i + 1) = cntB (fun i => (sQ u 4 (aW u i)).isSome) i by
            show cntB _ i + (if (sQ u 4 (aW u i)).isSome = true then 1 else 0) = _
            rw [← e5, h7]; rfl] at this
          exact this
        · rw [e9, e8, iN_succ, iN_succ]
          have := ih (i + 1) (by omega)
          rw [show cntB (fun i => (sQ u 4 (aW u i)).isSome) (i + 1) = cntB (fun i => (sQ u 4 (aW u i)).isSome) i + 1 by
            show cntB _ i + (if (sQ u 4 (aW u i)).isSome = true then 1 else 0) = _
            rw [← e5, h6]; rfl] at this
          exact this
  exact ⟨c + 1, key c 0 (by omega)⟩
theorem e_linePlace {p1 : Option Nat} (hc : c ≤ 4) (e : sI u 4 = iN c) (k : post (scan (fun i => decide (sQ u 1 i = p1)) c 0) u) : wpX2_placeOf K post u p1 := by
  have key : ∀ d i, i + d = c → post (scan (fun i => decide (sQ u 1 i = p1)) d i) u → wpX2_placeOf_2 K post (d + 1) p1 (iN i) u := by
    intro d
    induction d with
    | zero =>
      intro i hi hk
      refine ⟨fun _ => hk, fun h => ?_⟩
      rw [e] at h
      have := x_c0 (by omega) (by omega) h; omega
    | succ d ih =>
      intro i hi hk
      refine ⟨fun h => ?_, fun h => ⟨iN_in (by omega) (by omega), fun r2 e2 => ?_⟩⟩
      · rw [e] at h
        have := (iN_le (by omega) (by omega)).mp h; omega
      · rw [iN_nat (by omega)] at e2
        unfold scan at hk
        refine ⟨fun h7 x7 e7 => ?_, fun h7 => ?_⟩
        · rw [if_neg (by rw [← e2]; simpa using h7)] at hk
          rw [e7, iN_succ]
          exact ih (i + 1) (by omega) hk
        · rw [if_pos (by rw [← e2]; simpa using h7)] at hk
          exact hk
  exact ⟨c + 1, key c 0 (by omega) k⟩
theorem e_firstPlace (hc : c ≤ 10) (e : sI u 6 = iN c) (k : post (mnF (sB u 1) c) u) : wpX3_firstPlace K post u := by
  have key : ∀ d i, i + d = c → wpX3_firstPlace_4 K post (d + 1) (mnF (sB u 1) i) (iN i) u := by
    intro d
    induction d with
    | zero =>
      intro i hi
      refine ⟨fun _ => by rw [show i = c by omega]; exact k, fun h => ?_⟩
      rw [e] at h
      have := x_c0 (by omega) (by omega) h; omega
    | succ d ih =>
      intro i hi
      have h := ih (i + 1) (by omega)
      have eu : mnF (sB u 1) (i + 1) = if mnF (sB u 1) i < 0 then iN i else if 0 ≤ Op.cmpValue (FP.dcmp (sB u 1 i) (sB u 1 (mnF (sB u 1) i).toNatClampNeg)) .g then mnF (sB u 1) i else iN i := rfl
      refine ⟨fun h => ?_, fun _ => ⟨fun h0 x3 e3 => ?_, fun h0 => ⟨iN_in (by omega) (by omega), ?_, fun h1 x5 e5 => ?_, fun h1 x6 e6 => ?_⟩⟩⟩
      · rw [e] at h
        have := (iN_le (by omega) (by omega)).mp h; omega
      · rw [eu, if_pos h0] at h
        rw [e3, iN_succ]; exact h
      · rcases mnF_rng (t := sB u 1) i (by omega) with ⟨_, h2⟩ | ⟨k, hk, e2⟩
        · rw [h2] at h0; exact absurd (by decide) h0
        · rw [e2]; exact iN_in (by omega) (by omega)
      · rw [iN_nat (by omega)] at h1
        rw [eu, if_neg h0, if_pos h1] at h
        rw [e5, iN_succ]; exact h
      · rw [iN_nat (by omega)] at h1
        rw [eu, if_neg h0, if_neg h1] at h
        rw [e6, iN_succ]; exact h
  exact ⟨c + 1, key c 0 (by omega)⟩
/-! the reference's -/
theorem f_workerOf {p1 : Int32} (hc : c ≤ 5) (e : sI v 3 = iN c) (k : post (scan (fun i => decide (sA v 9 i = p1)) c 0) v) : wpM6_workerOf KMv post v p1 := by
  have key : ∀ d i, i + d = c → post (scan (fun i => decide (sA v 9 i = p1)) d i) v → wpM6_workerOf_2 KMv post (d + 1) p1 (iN i) v := by
    intro d
    induction d with
    | zero =>
      intro i hi hk
      refine ⟨fun _ => hk, fun h => ?_⟩
      rw [e] at h
      have := x_c0 (by omega) (by omega) h; omega
    | succ d ih =>
      intro i hi hk
      unfold scan at hk
      refine ⟨fun h => ?_, fun h => ⟨iN_in (by omega) (by omega), fun h7 x7 e7 => ?_, fun h7 => ?_⟩⟩
      · rw [e] at h
        have := (iN_le (by omega) (by omega)).mp h; omega
      · rw [iN_nat (by omega)] at h7
        rw [if_neg (by simpa using h7)] at hk
        rw [e7, iN_succ]
        exact ih (i + 1) (by omega) hk
      · rw [iN_nat (by omega)] at h7
        rw [if_pos (by simpa using h7)] at hk
        exact hk
  exact ⟨c + 1, key c 0 (by omega) k⟩
theorem f_place0 {p1 : Int32} (hc : c ≤ 5) (e : sI v 3 = iN c) (k : post (scan (fun i => decide (sA v 8 i = p1)) c 0) v) : wpM6_place0 KMv post v p1 := by
  have key : ∀ d i, i + d = c → post (scan (fun i => decide (sA v 8 i = p1)) d i) v → wpM6_place0_2 KMv post (d + 1) p1 (iN i) v := by
    intro d
    induction d with
    | zero =>
      intro i hi hk
      refine ⟨fun _ => hk, fun h => ?_⟩
      rw [e] at h
      have := x_c0 (by omega) (by omega) h; omega
    | succ d ih =>
      intro i hi hk
      unfold scan at hk
      refine ⟨fun h => ?_, fun h => ⟨iN_in (by omega) (by omega), fun h7 x7 e7 => ?_, fun h7 => ?_⟩⟩
      · rw [e] at h
        have := (iN_le (by omega) (by omega)).mp h; omega
      · rw [iN_nat (by omega)] at h7
        rw [if_neg (by simpa using h7)] at hk
        rw [e7, iN_succ]
        exact ih (i + 1) (by omega) hk
      · rw [iN_nat (by omega)] at h7
        rw [if_pos (by simpa using h7)] at hk
        exact hk
  exact ⟨c + 1, key c 0 (by omega) k⟩
theorem f_placeInQueue {p1 : Int32} (hc : c ≤ 4) (e : sI v 6 = iN c) (k : post (scan (fun i => decide (sA v 11 i = p1)) c 0) v) : wpM6_placeInQueue KMv post v p1 := by
  have key : ∀ d i, i + d = c → post (scan (fun i => decide (sA v 11 i = p1)) d i) v → wpM6_placeInQueue_2 KMv post (d + 1) p1 (iN i) v := by
    intro d
    induction d with
    | zero =>
      intro i hi hk
      refine ⟨fun _ => hk, fun h => ?_⟩
      rw [e] at h
      have := x_c0 (by omega) (by omega) h; omega
    | succ d ih =>
      intro i hi hk
      unfold scan at hk
      refine ⟨fun h => ?_, fun h => ⟨iN_in (by omega) (by omega), fun h7 x7 e7 => ?_, fun h7 => ?_⟩⟩
      · rw [e] at h
        have := (iN_le (by omega) (by omega)).mp h; omega
      · rw [iN_nat (by omega)] at h7
        rw [if_neg (by simpa using h7)] at hk
        rw [e7, iN_succ]
        exact ih (i + 1) (by omega) hk
      · rw [iN_nat (by omega)] at h7
        rw [if_pos (by simpa using h7)] at hk
        exact hk
  exact ⟨c + 1, key c 0 (by omega) k⟩
theorem f_countBusy (hc : c ≤ 5) (e : sI v 3 = iN c) (k : post (iN (cntB (fun i => decide (¬ sA v 9 i < 0)) c)) v) : wpM6_countBusy KMv post v := by
  have key : ∀ d i, i + d = c → wpM6_countBusy_4 KMv post (d + 1) (iN (cntB (fun i => decide (¬ sA v 9 i < 0)) i)) (iN i) v := by
    intro d
    induction d with
    | zero =>
      intro i hi
      refine ⟨fun _ => by rw [show i = c by omega]; exact k, fun h => ?_⟩
      rw [e] at h
      have := x_c0 (by omega) (by omega) h; omega
    | succ d ih =>
      intro i hi
      have h := ih (i + 1) (by omega)
      have eu : cntB (fun i => decide (¬ sA v 9 i < 0)) (i + 1) = cntB (fun i => decide (¬ sA v 9 i < 0)) i + (if decide (¬ sA v 9 i < 0) = true then 1 else 0) := rfl
      refine ⟨fun h => ?_, fun _ => ⟨iN_in (by omega) (by omega), fun h0 x3 e3 x4 e4 => ?_, fun h0 x5 e5 x6 e6 => ?_⟩⟩
      · rw [e] at h
        have := (iN_le (by omega) (by omega)).mp h; omega
      · rw [iN_nat (by omega)] at h0
        rw [eu, if_neg (by simpa using h0)] at h
        rw [e3, e4, iN_succ, Int32.add_zero]; exact h
      · rw [iN_nat (by omega)] at h0
        rw [eu, if_pos (by simpa using h0)] at h
        rw [e5, e6, iN_succ, iN_succ]; exact h
  exact ⟨c + 1, key c 0 (by omega)⟩
theorem f_first (hc : c ≤ 10) (e : sI v 7 = iN c) (k : post (mnF (sB v 2) c) v) : wpM6_first KMv post v := by
  have key : ∀ d i, i + d = c → wpM6_first_4 KMv post (d + 1) (mnF (sB v 2) i) (iN i) v := by
    intro d
    induction d with
    | zero =>
      intro i hi
      refine ⟨fun _ => by rw [show i = c by omega]; exact k, fun h => ?_⟩
      rw [e] at h
      have := x_c0 (by omega) (by omega) h; omega
    | succ d ih =>
      intro i hi
      have h := ih (i + 1) (by omega)
      have eu : mnF (sB v 2) (i + 1) = if mnF (sB v 2) i < 0 then iN i else if 0 ≤ Op.cmpValue (FP.dcmp (sB v 2 i) (sB v 2 (mnF (sB v 2) i).toNatClampNeg)) .g then mnF (sB v 2) i else iN i := rfl
      refine ⟨fun h => ?_, fun _ => ⟨fun h0 x3 e3 => ?_, fun h0 => ⟨iN_in (by omega) (by omega), ?_, fun h1 x5 e5 => ?_, fun h1 x6 e6 => ?_⟩⟩⟩
      · rw [e] at h
        have := (iN_le (by omega) (by omega)).mp h; omega
      · rw [eu, if_pos h0] at h
        rw [e3, iN_succ]; exact h
      · rcases mnF_rng (t := sB v 2) i (by omega) with ⟨_, h2⟩ | ⟨k, hk, e2⟩
        · rw [h2] at h0; exact absurd (by decide) h0
        · rw [e2]; exact iN_in (by omega) (by omega)
      · rw [iN_nat (by omega)] at h1
        rw [eu, if_neg h0, if_pos h1] at h
        rw [e5, iN_succ]; exact h
      · rw [iN_nat (by omega)] at h1
        rw [eu, if_neg h0, if_neg h1] at h
        rw [e6, iN_succ]; exact h
  exact ⟨c + 1, key c 0 (by omega)⟩
end SC
