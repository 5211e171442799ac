/-! the reference's state: what it keeps -/
theorem tA_eq {v : gS} {k i : Nat} {s : Int32} : sA (tA v k i s) k i = s := by rw [sA_tA, if_pos rfl, if_pos rfl]
theorem tA_ne {v : gS} {k i b : Nat} {s : Int32} (h : b ≠ i) : sA (tA v k i s) k b = sA v k b := by rw [sA_tA, if_pos rfl, if_neg h]
theorem tA_ot {v : gS} {k i a b : Nat} {s : Int32} (h : a ≠ k) : sA (tA v k i s) a b = sA v a b := by rw [sA_tA, if_neg h]
/-- how many jobs are new -/
def cN (s : Nat → Int32) : Nat → Nat
  | 0 => 0
  | n + 1 => cN s n + (if s n = 0 then 1 else 0)
theorem cN_le (s : Nat → Int32) : ∀ n, cN s n ≤ n
  | 0 => Nat.le_refl 0
  | n + 1 => by
    have := cN_le s n
    unfold cN
    split <;> omega
theorem cN_mono {s s' : Nat → Int32} : ∀ n, (∀ i, i < n → s' i = 0 → s i = 0) → cN s' n ≤ cN s n
  | 0, _ => Nat.le_refl 0
  | n + 1, h => by
    have h1 := cN_mono n (fun i hi => h i (by omega))
    have h2 := h n (by omega)
    unfold cN
    by_cases e : s' n = 0
    · rw [if_pos e, if_pos (h2 e)]; omega
    · rw [if_neg e]; omega
theorem cN_lt {s s' : Nat → Int32} {x : Nat} : ∀ n, (∀ i, i < n → s' i = 0 → s i = 0) → x < n → s x = 0 → s' x ≠ 0 → cN s' n + 1 ≤ cN s n
  | 0, _, hx, _, _ => by omega
  | n + 1, h, hx, e0, e1 => by
    unfold cN
    by_cases hn : x = n
    · subst hn
      have h1 := cN_mono x (fun i hi => h i (by omega))
      rw [if_neg e1, if_pos e0]; omega
    · have h1 := cN_lt n (fun i hi => h i (by omega)) (by omega) e0 e1
      have h2 := h n (by omega)
      by_cases e : s' n = 0
      · rw [if_pos e, if_pos (h2 e)]; omega
      · rw [if_neg e]; omega
def mB (j t w q e : Nat) : Prop := j ≤ 24 ∧ w ≤ 5 ∧ q ≤ 4 ∧ e ≤ 10
def mSz (j t w q e : Nat) (v : gS) : Prop := sI v 1 = iN j ∧ sI v 3 = iN w ∧ sI v 6 = iN q ∧ sI v 7 = iN e ∧ sI v 10 = iN t
def mBu (j w : Nat) (v : gS) : Prop := ∀ i, i < w → sA v 9 i < 0 ∨ ∃ b, b < j ∧ sA v 9 i = iN b
def mQu (j q : Nat) (v : gS) : Prop := ∀ i, i < q → ∃ b, b < j ∧ sA v 11 i = iN b
def mEn (j e : Nat) (v : gS) : Prop := ∀ i, i < e → ∃ b, b < j ∧ sA v 12 i = iN b
def mNx (j : Nat) (v : gS) : Prop := ∀ i, i < j → sA v 5 i < 0 ∨ ∃ b, b < j ∧ sA v 5 i = iN b
/-- who is QUEUED is in the queue (but for x, which has just been taken out) -/
def mS1 (j q x : Nat) (v : gS) : Prop := ∀ i, i < j → i ≠ x → sA v 4 i = 1 → ∃ k, k < q ∧ sA v 11 k = iN i
def mS2 (j t w : Nat) (v : gS) : Prop := ∀ i, i < j → sA v 4 i = 2 → (∃ k, k < w ∧ sA v 9 k = iN i) ∨ (∃ f, f < t ∧ sA v 13 f = iN i)
def mS0 (j : Nat) (v : gS) : Prop := ∀ i, j ≤ i → sA v 4 i = 0
def mStk (j t g : Nat) (v : gS) : Prop := ∀ f, f < t → ∃ b, b < j ∧ sA v 13 f = iN b ∧ sA v 4 b ≠ 0 ∧ (sA v 14 f = 1 → ∃ x, x < j ∧ sA v 1 b = iN x) ∧ (f ≠ g → sA v 14 f ≠ 0 → sA v 14 f ≠ 1 → sA v 4 b ≠ 2)
def mC (j t : Nat) (v : gS) : Prop := t + cN (sA v 4) j ≤ 25
def mD (n : Int) (v : gS) : Prop := dB n (sD v 0) ∧ dN (sD v 1) ∧ (∀ i, dB n (sB v 0 i)) ∧ (∀ i, dB n (sB v 1 i)) ∧ (∀ i, dB n (sB v 2 i)) ∧ (∀ i, dB 1000 (sB v 3 i))
def IP (n : Int) (j t w q e x g : Nat) (v : gS) : Prop := mB j t w q e ∧ mSz j t w q e v ∧ mBu j w v ∧ mQu j q v ∧ mEn j e v ∧ mNx j v ∧ mS1 j q x v ∧ mS2 j t w v ∧ mS0 j v ∧ mStk j t g v ∧ mC j t v ∧ mD n v
section IPS
variable {n : Int} {j t w q e x g : Nat} {v : gS}
theorem IP_i0 {s : Int32} (h : IP n j t w q e x g v) : IP n j t w q e x g (tI v 0 s) := h
theorem IP_i2 {s : Int32} (h : IP n j t w q e x g v) : IP n j t w q e x g (tI v 2 s) := h
theorem IP_i4 {s : Int32} (h : IP n j t w q e x g v) : IP n j t w q e x g (tI v 4 s) := h
theorem IP_i5 {s : Int32} (h : IP n j t w q e x g v) : IP n j t w q e x g (tI v 5 s) := h
theorem IP_i8 {s : Int32} (h : IP n j t w q e x g v) : IP n j t w q e x g (tI v 8 s) := h
theorem IP_i9 {s : Int32} (h : IP n j t w q e x g v) : IP n j t w q e x g (tI v 9 s) := h
theorem IP_a8 {i : Nat} {s : Int32} (h : IP n j t w q e x g v) : IP n j t w q e x g (tA v 8 i s) := h
theorem IP_a10 {i : Nat} {s : Int32} (h : IP n j t w q e x g v) : IP n j t w q e x g (tA v 10 i s) := h
theorem IP_a6 {i : Nat} {s : Int32} (h : IP n j t w q e x g v) : IP n j t w q e x g (tA v 6 i s) := h
theorem IP_a7 {i : Nat} {s : Int32} (h : IP n j t w q e x g v) : IP n j t w q e x g (tA v 7 i s) := h
theorem IP_d0 {s : UInt64} (h : IP n j t w q e x g v) (hs : dB n s) : IP n j t w q e x g (tD v 0 s) := by
  obtain ⟨a, b, c, d, f, gx, h1, h2, h0, ht, hc, k1, k2⟩ := h
  exact ⟨a, b, c, d, f, gx, h1, h2, h0, ht, hc, hs, k2⟩
theorem IP_d1 {s : UInt64} (h : IP n j t w q e x g v) (hs : dN s) : IP n j t w q e x g (tD v 1 s) := by
  obtain ⟨a, b, c, d, f, gx, h1, h2, h0, ht, hc, k1, k2, k3⟩ := h
  exact ⟨a, b, c, d, f, gx, h1, h2, h0, ht, hc, k1, hs, k3⟩
theorem IP_b0 {i : Nat} {s : UInt64} (h : IP n j t w q e x g v) (hs : dB n s) : IP n j t w q e x g (tB v 0 i s) := by
  obtain ⟨a, b, c, d, f, gx, h1, h2, h0, ht, hc, k1, k2, k3, k4, k5, k6⟩ := h
  exact ⟨a, b, c, d, f, gx, h1, h2, h0, ht, hc, k1, k2, g_B k3 hs, k4, k5, k6⟩
theorem IP_b1 {i : Nat} {s : UInt64} (h : IP n j t w q e x g v) (hs : dB n s) : IP n j t w q e x g (tB v 1 i s) := by
  obtain ⟨a, b, c, d, f, gx, h1, h2, h0, ht, hc, k1, k2, k3, k4, k5, k6⟩ := h
  exact ⟨a, b, c, d, f, gx, h1, h2, h0, ht, hc, k1, k2, k3, g_B k4 hs, k5, k6⟩
theorem IP_b2 {i : Nat} {s : UInt64} (h : IP n j t w q e x g v) (hs : dB n s) : IP n j t w q e x g (tB v 2 i s) := by
  obtain ⟨a, b, c, d, f, gx, h1, h2, h0, ht, hc, k1, k2, k3, k4, k5, k6⟩ := h
  exact ⟨a, b, c, d, f, gx, h1, h2, h0, ht, hc, k1, k2, k3, k4, g_B k5 hs, k6⟩
theorem IP_b3 {i : Nat} {s : UInt64} (h : IP n j t w q e x g v) (hs : dB 1000 s) : IP n j t w q e x g (tB v 3 i s) := by
  obtain ⟨a, b, c, d, f, gx, h1, h2, h0, ht, hc, k1, k2, k3, k4, k5, k6⟩ := h
  exact ⟨a, b, c, d, f, gx, h1, h2, h0, ht, hc, k1, k2, k3, k4, k5, g_B k6 hs⟩
theorem IP_mono {m : Int} (h : IP n j t w q e x g v) (hm : n ≤ m) : IP m j t w q e x g v := by
  obtain ⟨a, b, c, d, f, gx, h1, h2, h0, ht, hc, k1, k2, k3, k4, k5, k6⟩ := h
  exact ⟨a, b, c, d, f, gx, h1, h2, h0, ht, hc, dB_mono k1 hm, k2, fun i => dB_mono (k3 i) hm, fun i => dB_mono (k4 i) hm, fun i => dB_mono (k5 i) hm, k6⟩
theorem IP_x (h : IP n j t w q e x g v) (hx : sA v 4 x ≠ 1 ∨ j ≤ x) : IP n j t w q e 24 g v := by
  obtain ⟨a, b, c, d, f, gx, h1, r⟩ := h
  refine ⟨a, b, c, d, f, gx, fun i hi _ e1 => h1 i hi (fun ex => ?_) e1, r⟩
  rcases hx with hx | hx
  · exact hx (ex ▸ e1)
  · omega
theorem IP_x' (h : IP n j t w q e 24 g v) : IP n j t w q e x g v := by
  obtain ⟨a, b, c, d, f, gx, h1, r⟩ := h
  have : j ≤ 24 := a.1
  exact ⟨a, b, c, d, f, gx, fun i hi _ e1 => h1 i hi (by omega) e1, r⟩
/-- a job's state becomes s, not new -/
theorem IP_st {y : Nat} {s : Int32} (h : IP n j t w q e x g v) (hy : y < j) (h0 : s ≠ 0) (h1 : s = 1 → ∃ k, k < q ∧ sA v 11 k = iN y) (h2 : s = 2 → ((∃ k, k < w ∧ sA v 9 k = iN y) ∨ (∃ f, f < t ∧ sA v 13 f = iN y)) ∧ (sA v 4 y = 0 ∨ t = 0)) : IP n j t w q e x g (tA v 4 y s) := by
  obtain ⟨a, b, c, d, f, gx, k1, k2, k0, kt, kc, kd⟩ := h
  refine ⟨a, b, c, d, f, gx, fun i hi hx e1 => ?_, fun i hi e2 => ?_, fun i hi => ?_, fun f' hf => ?_, ?_, kd⟩
  · by_cases hiy : i = y
    · rw [hiy, tA_eq] at e1; rw [hiy]; exact h1 e1
    · rw [tA_ne hiy] at e1; exact k1 i hi hx e1
  · by_cases hiy : i = y
    · rw [hiy, tA_eq] at e2; rw [hiy]; exact (h2 e2).1
    · rw [tA_ne hiy] at e2; exact k2 i hi e2
  · rw [tA_ne (by omega)]; exact k0 i hi
  · obtain ⟨b', hb, hd, hn, hs1, hs2⟩ := kt f' hf
    refine ⟨b', hb, hd, ?_, hs1, fun g0 g1 g2 => ?_⟩
    · by_cases hby : b' = y
      · rw [hby, tA_eq]; exact h0
      · rw [tA_ne hby]; exact hn
    · by_cases hby : b' = y
      · rw [hby, tA_eq]
        intro e2
        rcases (h2 e2).2 with z | z
        · exact hn (hby ▸ z)
        · omega
      · rw [tA_ne hby]; exact hs2 g0 g1 g2
  · have := cN_mono (s := sA v 4) (s' := sA (tA v 4 y s) 4) j (fun i hi e0 => by
      by_cases hiy : i = y
      · rw [hiy, tA_eq] at e0; exact absurd e0 h0
      · rw [tA_ne hiy] at e0; exact e0)
    unfold mC at kc ⊢
    omega
theorem cN_st {y : Nat} {s : Int32} (hy : y < j) (h0 : s ≠ 0) (hn : sA v 4 y = 0) : cN (sA (tA v 4 y s) 4) j + 1 ≤ cN (sA v 4) j :=
  cN_lt j (fun i hi e0 => by
    by_cases hiy : i = y
    · rw [hiy, tA_eq] at e0; exact absurd e0 h0
    · rw [tA_ne hiy] at e0; exact e0) hy hn (by rw [tA_eq]; exact h0)
theorem cN_st' {y : Nat} {s : Int32} (h0 : s ≠ 0) : cN (sA (tA v 4 y s) 4) j ≤ cN (sA v 4) j :=
  cN_mono j (fun i hi e0 => by
    by_cases hiy : i = y
    · rw [hiy, tA_eq] at e0; exact absurd e0 h0
    · rw [tA_ne hiy] at e0; exact e0)
/-- new again -/
theorem IP_st0 {y : Nat} (h : IP n j 0 w q e x g v) (hy : y < j) : IP n j 0 w q e x g (tA v 4 y 0) := by
  obtain ⟨a, b, c, d, f, gx, k1, k2, k0, kt, kc, kd⟩ := h
  refine ⟨a, b, c, d, f, gx, fun i hi hx e1 => ?_, fun i hi e2 => ?_, fun i hi => ?_, fun f' hf => by omega, ?_, kd⟩
  · by_cases hiy : i = y
    · rw [hiy, tA_eq] at e1; exact absurd e1 (by decide)
    · rw [tA_ne hiy] at e1; exact k1 i hi hx e1
  · by_cases hiy : i = y
    · rw [hiy, tA_eq] at e2; exact absurd e2 (by decide)
    · rw [tA_ne hiy] at e2; exact k2 i hi e2
  · rw [tA_ne (by omega)]; exact k0 i hi
  · have := cN_le (sA (tA v 4 y 0) 4) j
    have := a.1
    unfold mC
    omega
/-- a worker gets another job, or none -/
theorem IP_bu {k : Nat} {s : Int32} (h : IP n j t w q e x g v) (hs : s < 0 ∨ ∃ b, b < j ∧ s = iN b) (ho : ∀ i, i < j → sA v 9 k = iN i → sA v 4 i ≠ 2) : IP n j t w q e x g (tA v 9 k s) := by
  obtain ⟨a, b, c, d, f, gx, k1, k2, r⟩ := h
  refine ⟨a, b, fun i hi => ?_, d, f, gx, k1, fun i hi e2 => ?_, r⟩
  · by_cases hik : i = k
    · rw [hik, tA_eq]; exact hs
    · rw [tA_ne hik]; exact c i hi
  · rcases k2 i hi e2 with ⟨k', hk, ek⟩ | hf
    · by_cases hkk : k' = k
      · exact absurd e2 (ho i hi (hkk ▸ ek))
      · exact Or.inl ⟨k', hk, by rw [tA_ne hkk]; exact ek⟩
    · exact Or.inr hf
end IPS
/-- what stays while jobs are performed: the workers that are there, and the jobs of the busy ones -/
def Ext (v v' : gS) : Prop := ∃ w w' : Nat, w ≤ w' ∧ w' ≤ 5 ∧ sI v 3 = iN w ∧ sI v' 3 = iN w' ∧ (∀ i, i < w → sA v' 8 i = sA v 8 i) ∧ (∀ i, i < w → ¬ sA v 9 i < 0 → sA v' 9 i = sA v 9 i)
theorem Ext.trans {a b c : gS} (h1 : Ext a b) (h2 : Ext b c) : Ext a c := by
  obtain ⟨w1, w2, l1, m1, e1, e2, p1, q1⟩ := h1
  obtain ⟨w3, w4, l2, m2, e3, e4, p2, q2⟩ := h2
  have hw : w2 = w3 := (iN_inj (by omega) (by omega)).mp (e2.symm.trans e3)
  subst hw
  refine ⟨w1, w4, by omega, m2, e1, e4, fun i hi => (p2 i (by omega)).trans (p1 i hi), fun i hi hb => ?_⟩
  have h := q1 i hi hb
  exact (q2 i (by omega) (by rw [h]; exact hb)).trans h
theorem Ext.same {v v' : gS} {w : Nat} (hw : w ≤ 5) (e1 : sI v 3 = iN w) (e2 : sI v' 3 = iN w) (h8 : ∀ i, sA v' 8 i = sA v 8 i) (h9 : ∀ i, sA v' 9 i = sA v 9 i) : Ext v v' := ⟨w, w, Nat.le_refl _, hw, e1, e2, fun i _ => h8 i, fun i _ _ => h9 i⟩
/-- a place for a job: how the rest changes -/
def Pl (j : Nat) (v v' : gS) : Prop := Ext v v' ∧ (∀ f, sA v' 13 f = sA v 13 f) ∧ (∀ f, sA v' 14 f = sA v 14 f) ∧ (∀ i, sA v' 1 i = sA v 1 i) ∧ (∀ i, sA v 4 i ≠ 0 → sA v' 4 i ≠ 0) ∧ (∀ i, sA v 4 i ≠ 0 → sA v 4 i ≠ 2 → sA v' 4 i ≠ 2) ∧ cN (sA v' 4) j + 1 ≤ cN (sA v 4) j
