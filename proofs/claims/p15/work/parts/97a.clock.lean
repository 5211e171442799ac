/-! class and reference: the clock's entries, the time, a job that is NEW again -/
def xPut (u : gS) (c p : Nat) (d r : UInt64) : gS := tI (tB (tB (tQ u 2 c (some p)) 1 c d) 2 c r) 6 (iN (c + 1))
def mPut (v : gS) (c y : Nat) (d r : UInt64) : gS := tI (tB (tB (tA v 12 c (iN y)) 2 c d) 3 c r) 7 (iN (c + 1))
theorem tB_eq {v : gS} {k i : Nat} {s : UInt64} : sB (tB v k i s) k i = s := by rw [sB_tB, if_pos rfl, if_pos rfl]
theorem tB_ne {v : gS} {k i b : Nat} {s : UInt64} (h : b ≠ i) : sB (tB v k i s) k b = sB v k b := by rw [sB_tB, if_pos rfl, if_neg h]
section CLK
variable {n : Int} {B : Nat} {KMv : KM} {K : KX} {j t w q e x x0 g T y : Nat} {u v : gS}
theorem RR_tt {a : Nat} (h : RR n B KMv K j t w q e x x0 g u v) (ha : a < e) : RR n B KMv K j t w q (e - 1) x x0 g (tI (xTt u a (e - 1)) 6 (iN (e - 1))) (mTt (tI v 7 (iN (e - 1))) a (e - 1)) := by
  obtain ⟨rk, rs, rz, r0, r1, r2, r3, rp, rw_, rl, rt, vq, vb, vn, vz, ip⟩ := h
  obtain ⟨bb, ⟨b1, b3, b6, b7, b10⟩, c, d, f, gx, k1, k2, k0, kt, kc, kd⟩ := ip
  refine ⟨rk, rs, ⟨rz.1, rz.2.1, rfl⟩, r0, r1, r2, r3, rp, rw_, rl, fun i hi => ?_, vq, vb, vn, vz, ⟨bb.1, bb.2.1, bb.2.2.1, by have := bb.2.2.2; omega⟩, ⟨b1, b3, b6, rfl, b10⟩, c, d, fun i hi => ?_, gx, k1, k2, k0, kt, kc, ⟨kd.1, kd.2.1, kd.2.2.1, kd.2.2.2.1, fun z => ?_, fun z => ?_⟩⟩
  · show sh (sQ u 2) a (e - 1) i = oJ K (sh (sA v 12) a (e - 1) i) ∧ sh (sB u 1) a (e - 1) i = sh (sB v 2) a (e - 1) i ∧ sh (sB u 2) a (e - 1) i = sh (sB v 3) a (e - 1) i
    rw [sh_at _ _ _ _ hi, sh_at _ _ _ _ hi, sh_at _ _ _ _ hi, sh_at _ _ _ _ hi, sh_at _ _ _ _ hi, sh_at _ _ _ _ hi]
    exact rt _ (by split <;> omega)
  · show ∃ b, b < j ∧ sh (sA v 12) a (e - 1) i = iN b
    rw [sh_at _ _ _ _ hi]
    exact f _ (by split <;> omega)
  · show dB n (sh (sB v 2) a (e - 1) z)
    unfold sh
    split
    · exact kd.2.2.2.2.1 _
    · exact kd.2.2.2.2.1 _
  · show dB 1000 (sh (sB v 3) a (e - 1) z)
    unfold sh
    split
    · exact kd.2.2.2.2.2 _
    · exact kd.2.2.2.2.2 _
theorem RR_put {d r : UInt64} (h : RR n B KMv K j t w q e x x0 g u v) (he : e < 10) (hy : y < j) (hd : dB n d) (hr : dB 1000 r) : RR n B KMv K j t w q (e + 1) x x0 g (xPut u e (aA K y) d r) (mPut v e y d r) := by
  obtain ⟨rk, rs, rz, r0, r1, r2, r3, rp, rw_, rl, rt, vq, vb, vn, vz, ip⟩ := h
  obtain ⟨bb, ⟨b1, b3, b6, b7, b10⟩, c, dd, f, gx, k1, k2, k0, kt, kc, kd⟩ := ip
  have hj := bb.1
  have e12 : ∀ i, sA (mPut v e y d r) 12 i = sA (tA v 12 e (iN y)) 12 i := fun i => rfl
  refine ⟨rk, rs, ⟨rz.1, rz.2.1, rfl⟩, r0, r1, r2, r3, rp, rw_, rl, fun i hi => ?_, vq, vb, vn, vz, ⟨bb.1, bb.2.1, bb.2.2.1, by omega⟩, ⟨b1, b3, b6, rfl, b10⟩, c, dd, fun i hi => ?_, gx, k1, k2, k0, kt, kc, ⟨kd.1, kd.2.1, kd.2.2.1, kd.2.2.2.1, g_B kd.2.2.2.2.1 hd, g_B kd.2.2.2.2.2 hr⟩⟩
  · rw [e12]
    refine ⟨?_, ?_, ?_⟩
    · show sQ (tQ u 2 e (some (aA K y))) 2 i = oJ K (sA (tA v 12 e (iN y)) 12 i)
      rw [sQ_tQ, if_pos rfl]
      by_cases hie : i = e
      · rw [if_pos hie, hie, tA_eq, oJ_N (by omega)]
      · rw [if_neg hie, tA_ne hie]; exact (rt i (by omega)).1
    · show sB (tB (tQ u 2 e (some (aA K y))) 1 e d) 1 i = sB (tB (tA v 12 e (iN y)) 2 e d) 2 i
      by_cases hie : i = e
      · rw [hie, tB_eq, tB_eq]
      · rw [tB_ne hie, tB_ne hie]; exact (rt i (by omega)).2.1
    · show sB (tB (tB (tQ u 2 e (some (aA K y))) 1 e d) 2 e r) 2 i = sB (tB (tB (tA v 12 e (iN y)) 2 e d) 3 e r) 3 i
      by_cases hie : i = e
      · rw [hie, tB_eq, tB_eq]
      · rw [tB_ne hie, tB_ne hie]; exact (rt i (by omega)).2.2
  · rw [e12]
    by_cases hie : i = e
    · rw [hie, tA_eq]; exact ⟨y, hy, rfl⟩
    · rw [tA_ne hie]; exact f i (by omega)
theorem RR_time {d : UInt64} (h : RR n B KMv K j t w q e x x0 g u v) (hd : dB n d) : RR n B KMv K j t w q e x x0 g (tD u 0 d) (tD v 0 d) := by
  obtain ⟨rk, rs, rz, r0, r1, r2, r3, rp, rw_, rl, rt, vq, vb, vn, vz, ip⟩ := h
  exact ⟨rk, ⟨rs.1, rs.2.1, rs.2.2.1, rs.2.2.2.1, rfl, rs.2.2.2.2.2⟩, rz, r0, r1, r2, r3, rp, rw_, rl, rt, vq, vb, vn, vz, IP_d0 ip hd⟩
theorem cN_up {s s' : Nat → Int32} {x : Nat} : ∀ n, (∀ i, i ≠ x → s' i = s i) → cN s' n ≤ cN s n + 1
  | 0, _ => by unfold cN; omega
  | n + 1, h => by
    by_cases hx : n = x
    · have : cN s' n = cN s n := by
        have a := cN_mono (s := s) (s' := s') n (fun i hi e0 => by rw [← h i (by omega)]; exact e0)
        have b := cN_mono (s := s') (s' := s) n (fun i hi e0 => by rw [h i (by omega)]; exact e0)
        omega
      unfold cN
      split <;> split <;> omega
    · have ih := cN_up n h
      unfold cN
      rw [h n hx]
      omega
/-- a job that is DONE or FAILED is NEW again -/
theorem RR_again (h : RR n B KMv K j 0 w q e 24 24 60 u v) (hy : y < j) (h34 : sA v 4 y = 3 ∨ sA v 4 y = 4) : RR n (B + 1) KMv K j 0 w q e 24 24 60 (tA u 0 (aA K y) 0) (tA v 4 y 0) := by
  obtain ⟨rk, rs, rz, r0, r1, r2, r3, rp, rw_, rl, rt, vq, vb, ⟨c, e4, hc, h8, hs⟩, vz, ip⟩ := h
  have hj := ip.1.1
  refine ⟨rk, rs, rz, up_A (RK_inj rk hj) hy r0, r1, r2, r3, rp, rw_, rl, rt, ⟨fun k i hk hi e1 => ?_, vq.2⟩, ⟨fun k i hk hi e1 => ?_, vb.2⟩, ⟨c, e4, ?_, h8, hs⟩, vz, IP_st0 ip hy⟩
  · have := vq.1 k i hk hi e1
    have hiy : i ≠ y := fun z => by rw [z] at this; rcases h34 with g | g <;> (rw [g] at this; exact absurd this (by decide))
    rw [tA_ne hiy]; exact this
  · rcases vb.1 k i hk hi e1 with z | z
    · have hiy : i ≠ y := fun z' => by rw [z'] at z; rcases h34 with g | g <;> (rw [g] at z; exact absurd z (by decide))
      rw [tA_ne hiy]; exact Or.inl z
    · omega
  · have := cN_up (s := sA v 4) (s' := sA (tA v 4 y 0) 4) (x := y) j (fun i hi => tA_ne hi)
    omega
theorem e_put {post : gS → Prop} {p c : Nat} {d r : UInt64} (hc : c < 10) (e : sI u 6 = iN c) (k : post (xPut u c p d r)) : wpX3_put K post u p d r := by
  refine ⟨fun _ => ?_, fun h => absurd (by rw [e]; exact (iN_lt (a := c) (b := 10) (by omega) (by omega)).mpr hc) h⟩
  have vc : vp_in (iN c) 10 := iN_in hc (by omega)
  refine ⟨by rw [e]; exact vc, fun u2 e2 => ?_⟩
  rw [e, iN_nat (by omega)] at e2
  subst e2
  have e' : sI (tQ u 2 c (some p)) 6 = iN c := e
  refine ⟨by rw [e']; exact vc, fun u3 e3 => ?_⟩
  rw [e', iN_nat (by omega)] at e3
  subst e3
  have e' : sI (tB (tQ u 2 c (some p)) 1 c d) 6 = iN c := e
  refine ⟨by rw [e']; exact vc, fun u4 e4 u5 e5 => ?_⟩
  rw [e', iN_nat (by omega)] at e4
  subst e4
  have e' : sI (tB (tB (tQ u 2 c (some p)) 1 c d) 2 c r) 6 = iN c := e
  rw [e', iN_succ] at e5
  subst e5
  exact k
theorem f_put {post : gS → Prop} {c : Nat} {d r : UInt64} (hc : c < 10) (e : sI v 7 = iN c) (k : post (mPut v c y d r)) : wpM6_put KMv post v (iN y) d r := by
  have vc : vp_in (iN c) 12 := iN_in (by omega) (by omega)
  refine ⟨by rw [e]; exact vc, fun u2 e2 => ?_⟩
  rw [e, iN_nat (by omega)] at e2
  subst e2
  have e' : sI (tA v 12 c (iN y)) 7 = iN c := e
  refine ⟨by rw [e']; exact vc, fun u3 e3 => ?_⟩
  rw [e', iN_nat (by omega)] at e3
  subst e3
  have e' : sI (tB (tA v 12 c (iN y)) 2 c d) 7 = iN c := e
  refine ⟨by rw [e']; exact vc, fun u4 e4 u5 e5 => ?_⟩
  rw [e', iN_nat (by omega)] at e4
  subst e4
  have e' : sI (tB (tB (tA v 12 c (iN y)) 2 c d) 3 c r) 7 = iN c := e
  rw [e', iN_succ] at e5
  subst e5
  exact k
end CLK
