/-! the reference's loop over the jobs that are performed: one turn of it -/
section LP
variable {n n' : Int} {B : Nat} {KMv : KM} {K : KX} {j t t' w q e x x' x0 g g' T y : Nat} {u v : gS}
/-- only the last part speaks of the stack -/
theorem RR_re (h : RR n B KMv K j t w q e x x0 g u v) (ip : IP n' j t' w q e x' g' v) : RR n' B KMv K j t' w q e x' x0 g' u v := by
  obtain ⟨rk, rs, rz, r0, r1, r2, r3, rp, rw_, rl, rt, vq, vb, vn, vz, _⟩ := h
  exact ⟨rk, rs, rz, r0, r1, r2, r3, rp, rw_, rl, rt, vq, vb, vn, vz, ip⟩
theorem RR_st2 {s : Int32} (h : RR n B KMv K j t w q e x x0 g u v) (hy : y < j) (h0 : s ≠ 0) (hI : IP n j t' w q e x' g' (tA v 4 y s)) (hq : ∀ k, k < q → sA v 11 k = iN y → s = 1) (hb : ∀ k, k < w → sA v 9 k = iN y → s = 2 ∨ y = x0) : RR n B KMv K j t' w q e x' x0 g' (tA u 0 (aA K y) s) (tA v 4 y s) := by
  obtain ⟨rk, rs, rz, r0, r1, r2, r3, rp, rw_, rl, rt, vq, vb, vn, vz, ip⟩ := h
  have hj := ip.1.1
  refine ⟨rk, rs, rz, up_A (RK_inj rk hj) hy r0, r1, r2, r3, rp, rw_, rl, rt, ⟨fun k i hk hi e1 => ?_, vq.2⟩, ⟨fun k i hk hi e1 => ?_, vb.2⟩, ?_, vz, hI⟩
  · by_cases hiy : i = y
    · rw [hiy, tA_eq]; exact hq k hk (hiy ▸ e1)
    · rw [tA_ne hiy]; exact vq.1 k i hk hi e1
  · by_cases hiy : i = y
    · rw [hiy, tA_eq]; exact hb k hk (hiy ▸ e1)
    · rw [tA_ne hiy]; exact vb.1 k i hk hi e1
  · obtain ⟨c, e4, hc, h8, hs⟩ := vn
    have := cN_st' (v := v) (j := j) (y := y) h0
    exact ⟨c, e4, by omega, h8, hs⟩
/-- a stage is set: of no concern to the class -/
theorem RR_14 {s : Int32} (h : RR n B KMv K j t w q e x x0 g u v) (hI : IP n j t' w q e x' g' (tA v 14 T s)) : RR n B KMv K j t' w q e x' x0 g' u (tA v 14 T s) := by
  obtain ⟨rk, rs, rz, r0, r1, r2, r3, rp, rw_, rl, rt, vq, vb, vn, vz, ip⟩ := h
  exact ⟨rk, rs, rz, r0, r1, r2, r3, rp, rw_, rl, rt, vq, vb, vn, vz, hI⟩
variable {post : gS → Prop} {l1 : Int32} {b : Nat}
theorem l_0 {v1 : gS} (hT : T < 60) (et : sI v 10 = iN (T + 1)) (hb : b ≤ T) (hs : sA v 14 T = 0) (ho : ∀ post', post' v1 → wpM6_performOne KMv post' v (iN T)) (k : ∃ m, wpM6_perform_10 KMv post m l1 (iN b) v1) : ∃ m, wpM6_perform_10 KMv post m l1 (iN b) v := by
  obtain ⟨m, k⟩ := k
  have vT : vp_in (iN T) 60 := iN_in (by omega) (by omega)
  refine ⟨m + 1, fun z => ?_, fun _ x5 e5 => ?_⟩
  · rw [et] at z
    have := (iN_le (by omega) (by omega)).mp z; omega
  · rw [et, iN_pred (by omega), show T + 1 - 1 = T by omega] at e5
    subst e5
    refine ⟨vT, fun x6 e6 => ⟨vT, fun z => ?_, fun _ => ho _ k⟩⟩
    rw [iN_nat (by omega)] at z
    exact absurd hs z
theorem l_1 {z : Nat} (hT : T < 60) (et : sI v 10 = iN (T + 1)) (hb : b ≤ T) (hs : sA v 14 T = 1) (hd : sA v 13 T = iN y) (hy : y < 24) (hz : z < 24) (ha : sA v 1 y = iN z) (k : ∃ m, wpM6_perform_10 KMv post m l1 (iN b) (tA (tA (tA v 4 y 3) 6 y (sA v 4 z)) 14 T 2)) : ∃ m, wpM6_perform_10 KMv post m l1 (iN b) v := by
  obtain ⟨m, k⟩ := k
  have vT : vp_in (iN T) 60 := iN_in (by omega) (by omega)
  have vy : vp_in (iN y) 24 := iN_in (by omega) (by omega)
  refine ⟨m + 1, fun z => ?_, fun _ x5 e5 => ?_⟩
  · rw [et] at z
    have := (iN_le (by omega) (by omega)).mp z; omega
  · rw [et, iN_pred (by omega), show T + 1 - 1 = T by omega] at e5
    subst e5
    refine ⟨vT, fun x6 e6 => ⟨vT, fun _ => ⟨vT, fun z' => ?_, fun _ => ?_⟩, fun z' => ?_⟩⟩
    · rw [iN_nat (by omega)] at z'
      exact absurd hs z'
    · rw [iN_nat (by omega), hd] at e6
      subst e6
      rw [iN_nat (by omega), iN_nat (by omega), ha, iN_nat (by omega)]
      refine ⟨vy, iN_in (by omega) (by omega), m_done hy ⟨vT, fun u22 e22 => ?_⟩⟩
      subst e22
      exact k
    · rw [iN_nat (by omega), hs] at z'
      exact absurd z' (by decide)
end LP
