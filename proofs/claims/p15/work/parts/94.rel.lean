/-! class and reference side by side: the relation -/
def aA (K : KX) (i : Nat) : Nat := (K.2.2.2.2 i).getD 0
/-- a job by its number; nobody where it is below 0 -/
def oJ (K : KX) (x : Int32) : Option Nat := if x < 0 then none else some (aA K x.toNatClampNeg)
theorem oJ_N {K : KX} {b : Nat} (hb : b < 2147483648) : oJ K (iN b) = some (aA K b) := by
  unfold oJ
  rw [if_neg (iN_nneg hb), iN_nat hb]
theorem oJ_neg {K : KX} {x : Int32} (h : x < 0) : oJ K x = none := if_pos h
def RK (KMv : KM) (K : KX) (j : Nat) (v : gS) : Prop := (K.1 0 = KMv 0 ∧ K.1 1 = KMv 1 ∧ K.1 2 = KMv 2 ∧ K.1 3 = KMv 3 ∧ K.1 4 = iN j) ∧ ∀ i, i < j → K.2.2.2.2 i = some (aA K i) ∧ aA K i ∈ K.2.2.1 ∧ K.2.2.2.1 (aA K i) 0 = iN i ∧ K.2.2.2.1 (aA K i) 1 = sA v 0 i ∧ K.2.2.2.1 (aA K i) 2 = sA v 1 i ∧ K.2.2.2.1 (aA K i) 3 = sA v 2 i ∧ K.2.2.2.1 (aA K i) 4 = sA v 3 i
def RS (u v : gS) : Prop := sI u 0 = sI v 2 ∧ sI u 1 = sI v 8 ∧ sI u 3 = sI v 5 ∧ sI u 5 = sI v 9 ∧ sD u 0 = sD v 0 ∧ sD u 1 = sD v 1
def RZ (w q e : Nat) (u : gS) : Prop := sI u 2 = iN w ∧ sI u 4 = iN q ∧ sI u 6 = iN e
def R0 (K : KX) (j : Nat) (u v : gS) : Prop := ∀ i, i < j → sA u 0 (aA K i) = sA v 4 i
def R1 (K : KX) (j : Nat) (u v : gS) : Prop := ∀ i, i < j → sA u 1 (aA K i) = sA v 6 i
def R2 (K : KX) (j : Nat) (u v : gS) : Prop := ∀ i, i < j → sA u 2 (aA K i) = sA v 7 i
def R3 (K : KX) (j : Nat) (u v : gS) : Prop := ∀ i, i < j → sQ u 3 (aA K i) = oJ K (sA v 5 i)
def RP (K : KX) (u : gS) : Prop := (∀ i, i < 5 → sQ u 0 i = some (aW u i) ∧ aW u i ∈ K.2.1) ∧ (∀ a b, a < 5 → b < 5 → aW u a = aW u b → a = b)
def RW (K : KX) (w : Nat) (u v : gS) : Prop := ∀ i, i < w → sQ u 4 (aW u i) = oJ K (sA v 9 i) ∧ sA u 3 (aW u i) = sA v 10 i ∧ (sA v 9 i < 0 → sB u 3 (aW u i) = sB v 0 i)
def Rq (K : KX) (q : Nat) (u v : gS) : Prop := ∀ i, i < q → sQ u 1 i = oJ K (sA v 11 i) ∧ sB u 0 i = sB v 1 i
def Re (K : KX) (e : Nat) (u v : gS) : Prop := ∀ i, i < e → sQ u 2 i = oJ K (sA v 12 i) ∧ sB u 1 i = sB v 2 i ∧ sB u 2 i = sB v 3 i
/-- of the reference alone: who stands in the queue is QUEUED and stands there once -/
def vQ (j q : Nat) (v : gS) : Prop := (∀ k i, k < q → i < j → sA v 11 k = iN i → sA v 4 i = 1) ∧ (∀ a b, a < q → b < q → sA v 11 a = sA v 11 b → a = b)
/-- a worker's job is RUNNING (but for x0, which is just being performed), and no other's -/
def vB (j w x0 : Nat) (v : gS) : Prop := (∀ k i, k < w → i < j → sA v 9 k = iN i → sA v 4 i = 2 ∨ i = x0) ∧ (∀ a b, a < w → b < w → ¬ sA v 9 a < 0 → sA v 9 a = sA v 9 b → a = b)
/-- the workers' names grow -/
def vN (B j w : Nat) (v : gS) : Prop := ∃ c, sI v 4 = iN c ∧ c + cN (sA v 4) j ≤ B ∧ (∀ i, i < w → ∃ a, a < c ∧ sA v 8 i = iN a) ∧ (∀ a b, a < b → b < w → sA v 8 a < sA v 8 b)
def vZ (j : Nat) (v : gS) : Prop := (∀ i, j ≤ i → sA v 6 i = 0 ∧ sA v 7 i = 0) ∧ (∀ i, i < j → sA v 5 i < 0 → sA v 5 i = -1)
def RR (n : Int) (B : Nat) (KMv : KM) (K : KX) (j t w q e x x0 g : Nat) (u v : gS) : Prop :=
  RK KMv K j v ∧ RS u v ∧ RZ w q e u ∧ R0 K j u v ∧ R1 K j u v ∧ R2 K j u v ∧ R3 K j u v ∧ RP K u ∧ RW K w u v ∧ Rq K q u v ∧ Re K e u v ∧ vQ j q v ∧ vB j w x0 v ∧ vN B j w v ∧ vZ j v ∧ IP n j t w q e x g v
section RRS
variable {n : Int} {B : Nat} {KMv : KM} {K : KX} {j t w q e x x0 g : Nat} {u v : gS}
theorem RK_inj (h : RK KMv K j v) (hj : j ≤ 24) {a b : Nat} (ha : a < j) (hb : b < j) (he : aA K a = aA K b) : a = b := by
  have h1 := (h.2 a ha).2.2.1
  have h2 := (h.2 b hb).2.2.1
  rw [he, h2] at h1
  exact ((iN_inj (by omega) (by omega)).mp h1).symm
theorem RR_ip (h : RR n B KMv K j t w q e x x0 g u v) : IP n j t w q e x g v := h.2.2.2.2.2.2.2.2.2.2.2.2.2.2.2
theorem up_A {s : Int32} {m m' y : Nat} (hi : ∀ {a b : Nat}, a < j → b < j → aA K a = aA K b → a = b) (hy : y < j) (h : ∀ i, i < j → sA u m (aA K i) = sA v m' i) : ∀ i, i < j → sA (tA u m (aA K y) s) m (aA K i) = sA (tA v m' y s) m' i := by
  intro i hi'
  by_cases hiy : i = y
  · rw [hiy, tA_eq, tA_eq]
  · rw [tA_ne hiy, tA_ne (fun z => hiy (hi hi' hy z))]; exact h i hi'
/-- a job's state -/
theorem RR_st {y : Nat} {s : Int32} (h : RR n B KMv K j t w q e x x0 g u v) (hy : y < j) (h0 : s ≠ 0) (hI : IP n j t w q e x g (tA v 4 y s)) (hq : ∀ k, k < q → sA v 11 k = iN y → s = 1) (hb : ∀ k, k < w → sA v 9 k = iN y → s = 2 ∨ y = x0) : RR n B KMv K j t w q e x x0 g (tA u 0 (aA K y) s) (tA v 4 y s) := by
  obtain ⟨rk, rs, rz, r0, r1, r2, r3, rp, rw_, rl, rt, vq, vb, vn, vz, ip⟩ := h
  have hj := ip.1.1
  refine ⟨rk, rs, rz, up_A (RK_inj rk hj) hy r0, r1, r2, r3, rp, rw_, rl, rt, ⟨fun k i hk hi e1 => ?_, vq.2⟩, ⟨fun k i hk hi e1 => ?_, vb.2⟩, ?_, vz, hI⟩
  · by_cases hiy : i = y
    · rw [hiy, tA_eq]; exact hq k hk (hiy ▸ e1)
    · rw [tA_ne hiy]; exact vq.1 k i hk hi e1
  · by_cases hiy : i = y
    · rw [hiy, tA_eq]; exact hb k hk (hiy ▸ e1)
    · rw [tA_ne hiy]; exact vb.1 k i hk hi e1
  · obtain ⟨c, e4, hc, h8, hs⟩ := vn
    have := cN_st' (v := v) (j := j) (y := y) h0
    exact ⟨c, e4, by omega, h8, hs⟩
theorem RR_res {y : Nat} {s : Int32} (h : RR n B KMv K j t w q e x x0 g u v) (hy : y < j) : RR n B KMv K j t w q e x x0 g (tA u 1 (aA K y) s) (tA v 6 y s) := by
  obtain ⟨rk, rs, rz, r0, r1, r2, r3, rp, rw_, rl, rt, vq, vb, vn, vz, ip⟩ := h
  have hj := ip.1.1
  refine ⟨rk, rs, rz, r0, up_A (RK_inj rk hj) hy r1, r2, r3, rp, rw_, rl, rt, vq, vb, vn, ⟨fun i hi => ⟨?_, (vz.1 i hi).2⟩, vz.2⟩, IP_a6 ip⟩
  rw [tA_ne (by omega)]; exact (vz.1 i hi).1
theorem RR_thr {y : Nat} {s : Int32} (h : RR n B KMv K j t w q e x x0 g u v) (hy : y < j) : RR n B KMv K j t w q e x x0 g (tA u 2 (aA K y) s) (tA v 7 y s) := by
  obtain ⟨rk, rs, rz, r0, r1, r2, r3, rp, rw_, rl, rt, vq, vb, vn, vz, ip⟩ := h
  have hj := ip.1.1
  refine ⟨rk, rs, rz, r0, r1, up_A (RK_inj rk hj) hy r2, r3, rp, rw_, rl, rt, vq, vb, vn, ⟨fun i hi => ⟨(vz.1 i hi).1, ?_⟩, vz.2⟩, IP_a7 ip⟩
  rw [tA_ne (by omega)]; exact (vz.1 i hi).2
/-- one more has ended -/
theorem RR_fin (h : RR n B KMv K j t w q e x x0 g u v) : RR n B KMv K j t w q e x x0 g (tI u 1 (sI u 1 + 1)) (tI v 8 (sI v 8 + 1)) := by
  obtain ⟨rk, rs, rz, r0, r1, r2, r3, rp, rw_, rl, rt, vq, vb, vn, vz, ip⟩ := h
  refine ⟨rk, ⟨rs.1, ?_, rs.2.2⟩, rz, r0, r1, r2, r3, rp, rw_, rl, rt, vq, vb, vn, vz, IP_i8 ip⟩
  show sI u 1 + 1 = sI v 8 + 1
  rw [rs.2.1]
/-- a worker begins a job: the workers' part -/
theorem RW_work {k y : Nat} {c : Int32} (rp : RP K u) (h : RW K w u v) (hw : w ≤ 5) (hk : k < w) (hy : y < 24) : RW K w (tA (tQ u 4 (aW u k) (some (aA K y))) 3 (aW u k) c) (tA (tA v 9 k (iN y)) 10 k c) := by
  intro i hi
  have ea : aW (tA (tQ u 4 (aW u k) (some (aA K y))) 3 (aW u k) c) i = aW u i := rfl
  rw [ea]
  obtain ⟨h1, h2, h3⟩ := h i hi
  by_cases hik : i = k
  · subst hik
    refine ⟨?_, ?_, fun hn => ?_⟩
    · show sQ (tQ u 4 (aW u i) (some (aA K y))) 4 (aW u i) = oJ K (sA (tA v 9 i (iN y)) 9 i)
      rw [sQ_tQ, if_pos rfl, if_pos rfl, tA_eq, oJ_N (by omega)]
    · rw [tA_eq, tA_eq]
    · have hn' : sA (tA v 9 i (iN y)) 9 i < 0 := hn
      rw [tA_eq] at hn'
      exact absurd hn' (iN_nneg (by omega))
  · have hne : aW u i ≠ aW u k := fun z => hik (rp.2 i k (by omega) (by omega) z)
    refine ⟨?_, ?_, fun hn => ?_⟩
    · show sQ (tQ u 4 (aW u k) (some (aA K y))) 4 (aW u i) = oJ K (sA (tA v 9 k (iN y)) 9 i)
      rw [sQ_tQ, if_pos rfl, if_neg hne, tA_ne hik]; exact h1
    · rw [tA_ne hne, tA_ne hik]; exact h2
    · have hn' : sA (tA v 9 k (iN y)) 9 i < 0 := hn
      rw [tA_ne hik] at hn'
      exact h3 hn'
/-- a worker rests -/
theorem RW_rest {k : Nat} {d : UInt64} (rp : RP K u) (h : RW K w u v) (hw : w ≤ 5) (hk : k < w) : RW K w (tB (tA (tQ u 4 (aW u k) none) 3 (aW u k) 0) 3 (aW u k) d) (tB (tA (tA v 9 k (-1)) 10 k 0) 0 k d) := by
  intro i hi
  have ea : aW (tB (tA (tQ u 4 (aW u k) none) 3 (aW u k) 0) 3 (aW u k) d) i = aW u i := rfl
  rw [ea]
  obtain ⟨h1, h2, h3⟩ := h i hi
  by_cases hik : i = k
  · subst hik
    refine ⟨?_, ?_, fun hn => ?_⟩
    · show sQ (tQ u 4 (aW u i) none) 4 (aW u i) = oJ K (sA (tA v 9 i (-1)) 9 i)
      rw [sQ_tQ, if_pos rfl, if_pos rfl, tA_eq, oJ_neg (by decide)]
    · show sA (tA (tQ u 4 (aW u i) none) 3 (aW u i) 0) 3 (aW u i) = sA (tA (tA v 9 i (-1)) 10 i 0) 10 i
      rw [tA_eq, tA_eq]
    · rw [sB_tB, if_pos rfl, if_pos rfl, sB_tB, if_pos rfl, if_pos rfl]
  · have hne : aW u i ≠ aW u k := fun z => hik (rp.2 i k (by omega) (by omega) z)
    refine ⟨?_, ?_, fun hn => ?_⟩
    · show sQ (tQ u 4 (aW u k) none) 4 (aW u i) = oJ K (sA (tA v 9 k (-1)) 9 i)
      rw [sQ_tQ, if_pos rfl, if_neg hne, tA_ne hik]; exact h1
    · show sA (tA (tQ u 4 (aW u k) none) 3 (aW u k) 0) 3 (aW u i) = sA (tA (tA v 9 k (-1)) 10 k 0) 10 i
      rw [tA_ne hne, tA_ne hik]; exact h2
    · have hn' : sA (tA v 9 k (-1)) 9 i < 0 := hn
      rw [tA_ne hik] at hn'
      rw [sB_tB, if_pos rfl, if_neg hne, sB_tB, if_pos rfl, if_neg hik]
      exact h3 hn'
end RRS
