/-! class and reference: a job is performed and ends, with all that follows on it -/
/-- what stays below T while jobs are performed -/
def Kp (j T : Nat) (v v' : gS) : Prop := Ext v v' ∧ St v v' ∧ (∀ f, f < T → sA v' 13 f = sA v 13 f ∧ sA v' 14 f = sA v 14 f) ∧ (∀ i, sA v' 1 i = sA v 1 i) ∧ (∀ i, sA v 4 i ≠ 0 → sA v' 4 i ≠ 0) ∧ cN (sA v' 4) j ≤ cN (sA v 4) j
theorem Kp.trans {j T : Nat} {a b c : gS} (h1 : Kp j T a b) (h2 : Kp j T b c) : Kp j T a c :=
  ⟨h1.1.trans h2.1, h1.2.1.trans h2.2.1, fun f hf => ⟨(h2.2.2.1 f hf).1.trans (h1.2.2.1 f hf).1, (h2.2.2.1 f hf).2.trans (h1.2.2.1 f hf).2⟩, fun i => (h2.2.2.2.1 i).trans (h1.2.2.2.1 i), fun i hi => h2.2.2.2.2.1 i (h1.2.2.2.2.1 i hi), Nat.le_trans h2.2.2.2.2.2 h1.2.2.2.2.2⟩
theorem Kp.mono {j T T' : Nat} {a b : gS} (h : Kp j T a b) (hT : T' ≤ T) : Kp j T' a b := ⟨h.1, h.2.1, fun f hf => h.2.2.1 f (by omega), h.2.2.2⟩
theorem Kp_Pl {j T : Nat} {v v' : gS} (h : Pl j v v') (hs : St v v') : Kp j T v v' := ⟨h.1, hs, fun f _ => ⟨h.2.1 f, h.2.2.1 f⟩, h.2.2.2.1, h.2.2.2.2.1, by have := h.2.2.2.2.2.2; omega⟩
/-- who isn't NEW, isn't QUEUED and isn't y keeps its state; who isn't NEW gets no worker -/
def Nk (y : Nat) (v v' : gS) : Prop := Sc0 v v' ∧ ∀ i, i < 24 → sA v 4 i ≠ 0 → (i ≠ y → sA v 4 i ≠ 1 → sA v' 4 i = sA v 4 i) ∧ (Bs v' i → Bs v i)
theorem Nk.trans {y z : Nat} {a b c : gS} (h1 : Nk y a b) (h2 : Nk z b c) (hk : ∀ i, sA a 4 i ≠ 0 → sA b 4 i ≠ 0) (hz : z = y ∨ sA a 4 z = 0 ∨ z = 24) : Nk y a c := by
  refine ⟨h1.1.trans h2.1, fun i hi h0 => ?_⟩
  obtain ⟨p1, p2⟩ := h1.2 i hi h0
  obtain ⟨r1, r2⟩ := h2.2 i hi (hk i h0)
  refine ⟨fun hy h1' => ?_, fun zz => p2 (r2 zz)⟩
  have e1 := p1 hy h1'
  have hiz : i ≠ z := fun ez => by
    rcases hz with g | g | g
    · exact hy (ez.trans g)
    · exact h0 (ez ▸ g)
    · omega
  rw [← e1]
  exact r1 hiz (by rw [e1]; exact h1')
theorem Nk_Nq {y z : Nat} {v v' : gS} (h : Nq z v v') (h0 : sA v 4 z = 0) : Nk y v v' := by
  refine ⟨h.1, fun i hi hn => ?_⟩
  obtain ⟨p1, p2⟩ := h.2 i hi (fun ez => hn (ez ▸ h0))
  refine ⟨fun _ h1 => ?_, p2⟩
  rcases p1 with g | g
  · exact g
  · exact absurd g.1 h1
theorem Nk_st {y : Nat} {s : Int32} {v v' : gS} (e4 : ∀ i, sA v' 4 i = sA (tA v 4 y s) 4 i) (e3 : sI v' 3 = sI v 3) (e9 : ∀ i, sA v' 9 i = sA v 9 i) (e0 : Sc0 v v') : Nk y v v' := ⟨e0, fun i _ _ => ⟨fun hy _ => by rw [e4, tA_ne hy], Bs_same e3 e9⟩⟩
theorem Nk_same {y : Nat} {v v' : gS} (e4 : ∀ i, sA v' 4 i = sA v 4 i) (e3 : sI v' 3 = sI v 3) (e9 : ∀ i, sA v' 9 i = sA v 9 i) (e0 : Sc0 v v') : Nk y v v' := ⟨e0, fun i _ _ => ⟨fun _ _ => e4 i, Bs_same e3 e9⟩⟩
section JPF
variable {n : Int} {B : Nat} {KMv : KM} {K : KX} {j t w q e x x0 g T y : Nat} {u v : gS}
theorem IP_pop (hI : IP n j (T + 1) w q e 24 60 v) (hd : sA v 13 T = iN y) (hy : y < j) (h2 : sA v 4 y ≠ 2) : IP n j T w q e 24 60 (mPop v T) := by
  obtain ⟨a, ⟨b1, b3, b6, b7, b10⟩, c, d, f, gx, k1, k2, k0', kt, kc, kd⟩ := hI
  have hj := a.1
  refine ⟨a, ⟨b1, b3, b6, b7, rfl⟩, c, d, f, gx, k1, fun i hi e2 => ?_, k0', fun f' hf => kt f' (by omega), ?_, kd⟩
  · rcases k2 i hi e2 with h | ⟨f', hf, ef⟩
    · exact Or.inl h
    · by_cases hfT : f' = T
      · exfalso
        have : i = y := (iN_inj (by omega) (by omega)).mp (ef.symm.trans (hfT ▸ hd))
        exact h2 (this ▸ e2)
      · exact Or.inr ⟨f', by omega, ef⟩
  · unfold mC at kc
    show T + cN (sA v 4) j ≤ 25
    omega
theorem RR_pop (h : RR n B KMv K j (T + 1) w q e 24 x0 60 u v) (hd : sA v 13 T = iN y) (hy : y < j) (h2 : sA v 4 y ≠ 2) : RR n B KMv K j T w q e 24 x0 60 (tI u 1 (sI u 1 + 1)) (mPop v T) := by
  have ip := IP_pop (RR_ip h) hd hy h2
  obtain ⟨rk, rs, rz, r0, r1, r2, r3, rp, rw_, rl, rt, vq, vb, vn, vz, _⟩ := h
  refine ⟨rk, ⟨rs.1, ?_, rs.2.2⟩, rz, r0, r1, r2, r3, rp, rw_, rl, rt, vq, vb, vn, vz, ip⟩
  show sI u 1 + 1 = sI v 8 + 1
  rw [rs.2.1]
theorem mPush_4 (v : gS) (T y i : Nat) : sA (mPush v T y) 4 i = sA (tA v 4 y 2) 4 i := by
  show sA (tA (tA (tA v 13 T (iN y)) 14 T 0) 4 y 2) 4 i = _
  by_cases hi : i = y
  · rw [hi, tA_eq, tA_eq]
  · rw [tA_ne hi, tA_ne hi]; rfl
/-- a NEW job is put upon the stack; the class calls it RUNNING -/
theorem RR_push (h : RR n B KMv K j T w q e 24 x0 60 u v) (hy : y < j) (h0 : sA v 4 y = 0) (hx0 : x0 < j → sA v 4 x0 ≠ 0) : RR n B KMv K j (T + 1) w q e 24 x0 60 (tA u 0 (aA K y) 2) (mPush v T y) := by
  have ip := RR_ip h
  have hj := ip.1.1
  have kc : T + cN (sA v 4) j ≤ 25 := ip.2.2.2.2.2.2.2.2.2.2.1
  have hc := cN_st (v := v) (j := j) (y := y) (s := 2) hy (by decide) h0
  have ip' := IP_push ip hy (Or.inl h0) (by omega)
  obtain ⟨rk, rs, rz, r0, r1, r2, r3, rp, rw_, rl, rt, vq, vb, vn, vz, _⟩ := h
  refine ⟨rk, rs, rz, up_A (u := u) (v := tA (tA v 13 T (iN y)) 14 T 0) (m := 0) (m' := 4) (RK_inj rk hj) hy r0, r1, r2, r3, rp, rw_, rl, rt, ⟨fun k i hk hi e1 => ?_, vq.2⟩, ⟨fun k i hk hi e1 => ?_, vb.2⟩, ?_, vz, ip'⟩
  · rw [mPush_4]
    have := vq.1 k i hk hi e1
    have hiy : i ≠ y := fun z => by rw [z, h0] at this; exact absurd this (by decide)
    rw [tA_ne hiy]; exact this
  · rw [mPush_4]
    by_cases hiy : i = y
    · rw [hiy, tA_eq]; exact Or.inl rfl
    · rw [tA_ne hiy]; exact vb.1 k i hk hi e1
  · obtain ⟨c, e4', hc', h8, hs⟩ := vn
    refine ⟨c, e4', ?_, h8, hs⟩
    rw [show sA (mPush v T y) 4 = sA (tA v 4 y 2) 4 from funext (mPush_4 v T y)]
    omega
theorem Bs_x0 (h : RR n B KMv K j t w q e x x0 g u v) (hy : y < j) (h2 : sA v 4 y ≠ 2) (hb : Bs v y) : y = x0 := by
  obtain ⟨w', k, a, b, c, d⟩ := hb
  have ip := RR_ip h
  have hw := ip.1.2.1
  have hww : w = w' := (iN_inj (by omega) (by omega)).mp (ip.2.1.2.1.symm.trans b)
  rcases h.2.2.2.2.2.2.2.2.2.2.2.2.1.1 k y (by omega) hy d with z | z
  · exact absurd z h2
  · exact z
end JPF
