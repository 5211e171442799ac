/-! doubles: no NaN, and of bounded size (in units of the least number: one64 of them are 1) -/
def dB (n : Int) (x : UInt64) : Prop :=
  Jvm.FP.Core.val64 x ≠ .nan ∧ -(n * (Jvm.FP.Core.one64 : Int)) ≤ Jvm.FP.Core.zval Jvm.FP.Core.b64 (Jvm.FP.Core.val64 x) ∧ Jvm.FP.Core.zval Jvm.FP.Core.b64 (Jvm.FP.Core.val64 x) ≤ n * (Jvm.FP.Core.one64 : Int)
def dN (x : UInt64) : Prop := Jvm.FP.Core.val64 x ≠ .nan
theorem dN_n64 {x : UInt64} (h : dN x) : vf_n64 x := by
  unfold vf_n64
  rw [UInt64.le_iff_toNat_le, Jvm.FP.Core.mask_toNat]
  exact (Jvm.FP.Core.ne_nan x).mp h
theorem dB_mono {m n : Int} {x : UInt64} (h : dB m x) (hmn : m ≤ n) : dB n x := by
  obtain ⟨h1, h2, h3⟩ := h
  have ho : (0 : Int) ≤ (Jvm.FP.Core.one64 : Int) := Int.natCast_nonneg _
  have hm := Int.mul_le_mul_of_nonneg_right hmn ho
  exact ⟨h1, by omega, by omega⟩
theorem dB_nn {n : Int} {x : UInt64} (h : dB n x) : 0 ≤ n := by
  obtain ⟨_, h2, h3⟩ := h
  have ho := Jvm.FP.Core.one64_pos
  refine Int.le_of_not_gt fun hn => ?_
  have hm := Int.mul_le_mul_of_nonneg_right (show n ≤ -1 by omega) (show (0 : Int) ≤ (Jvm.FP.Core.one64 : Int) from Int.natCast_nonneg _)
  omega
theorem dB_fin {n : Int} {x : UInt64} (hn : n ≤ 9007199254740992) (h : dB n x) : Jvm.FP.Core.DFin x := by
  obtain ⟨h1, h2, h3⟩ := h
  cases hv : Jvm.FP.Core.val64 x with
  | nan => exact absurd hv h1
  | fin s c q => exact ⟨s, c, q, hv⟩
  | inf s =>
    exfalso
    rw [hv] at h2 h3
    have hm := Int.mul_le_mul_of_nonneg_right hn (show (0 : Int) ≤ (Jvm.FP.Core.one64 : Int) from Int.natCast_nonneg _)
    have ht : (9007199254740992 : Int) * (Jvm.FP.Core.one64 : Int) < ((Jvm.FP.Core.zmag Jvm.FP.Core.b64 (.inf s) : Nat) : Int) := by
      show (9007199254740992 : Int) * ((2 ^ 1074 : Nat) : Int) < ((Jvm.FP.Core.b64.tails * 2 ^ (Jvm.FP.Core.b64.exps - 2) : Nat) : Int)
      decide +kernel
    have hz : Jvm.FP.Core.zval Jvm.FP.Core.b64 (.inf s) = Jvm.FP.Core.signed s (Jvm.FP.Core.zmag Jvm.FP.Core.b64 (.inf s)) := rfl
    rw [hz] at h2 h3
    generalize Jvm.FP.Core.zmag Jvm.FP.Core.b64 (.inf s) = t at *
    cases s <;> simp only [Jvm.FP.Core.signed, if_true, Bool.false_eq_true, if_false] at h2 h3 <;> omega
theorem dB_V {n : Int} (h : n.natAbs ≤ 2 ^ 53) : ∃ V : Jvm.FP.Core.Datum, Jvm.FP.Core.fits Jvm.FP.Core.b64 V ∧ V ≠ .nan ∧ Jvm.FP.Core.zval Jvm.FP.Core.b64 V = n * (Jvm.FP.Core.one64 : Int) := by
  have w := Jvm.FP.Core.whole_round Jvm.FP.Core.good_b64 Jvm.FP.Core.wide_b64 (show n.natAbs ≤ 2 ^ Jvm.FP.Core.b64.p from h) (Jvm.FP.Core.whole_ofInt n)
  exact ⟨_, Jvm.FP.Core.round_fits Jvm.FP.Core.good_b64 _, w.ne_nan, by rw [← Jvm.FP.Core.pow_qmin64]; exact Jvm.FP.Core.whole_zval Jvm.FP.Core.good_b64 (Jvm.FP.Core.round_fits Jvm.FP.Core.good_b64 _) w⟩
theorem dB_add {m n : Int} {a b : UInt64} (ha : dB m a) (hb : dB n b) (h : m + n ≤ 9007199254740992) : dB (m + n) (FP.dadd a b) := by
  have hm := dB_nn ha
  have hn := dB_nn hb
  obtain ⟨s, c, q, ea⟩ := dB_fin (by omega) ha
  obtain ⟨t, d, r, eb⟩ := dB_fin (by omega) hb
  obtain ⟨_, a1, a2⟩ := ha
  obtain ⟨_, b1, b2⟩ := hb
  have fa := Jvm.FP.Core.val64_fits a
  have fb := Jvm.FP.Core.val64_fits b
  rw [ea] at a1 a2 fa
  rw [eb] at b1 b2 fb
  obtain ⟨sg, k, e, es, he, hu⟩ := Jvm.FP.Core.sum_units fa fb
  obtain ⟨V, v1, v2, v3⟩ := dB_V (n := m + n) (by omega)
  obtain ⟨V', w1, w2, w3⟩ := dB_V (n := -(m + n)) (by omega)
  have hv : Jvm.FP.Core.val64 (FP.dadd a b) = Jvm.FP.Core.round Jvm.FP.Core.b64 (.fin sg k e) := by
    show Jvm.FP.Core.val64 (Jvm.FP.Core.dadd a b) = _
    rw [Jvm.FP.Core.val64_dadd, ea, eb, es]
  have hd : (m + n) * (Jvm.FP.Core.one64 : Int) = m * (Jvm.FP.Core.one64 : Int) + n * (Jvm.FP.Core.one64 : Int) := Int.add_mul ..
  have hd' : -(m + n) * (Jvm.FP.Core.one64 : Int) = -((m + n) * (Jvm.FP.Core.one64 : Int)) := Int.neg_mul ..
  have up : Jvm.FP.Core.zval Jvm.FP.Core.b64 (Jvm.FP.Core.round Jvm.FP.Core.b64 (.fin sg k e)) ≤ Jvm.FP.Core.zval Jvm.FP.Core.b64 V := by
    refine Jvm.FP.Core.zval_round_le Jvm.FP.Core.good_b64 v1 v2 (e0 := Jvm.FP.Core.b64.qmin) (Int.le_refl _) he ?_
    rw [hu, v3, Int.sub_self]
    show _ ≤ _ * ((1 : Nat) : Int)
    rw [show ((1 : Nat) : Int) = 1 from rfl, Int.mul_one]
    omega
  have dn : Jvm.FP.Core.zval Jvm.FP.Core.b64 V' ≤ Jvm.FP.Core.zval Jvm.FP.Core.b64 (Jvm.FP.Core.round Jvm.FP.Core.b64 (.fin sg k e)) := by
    refine Jvm.FP.Core.zval_round_ge Jvm.FP.Core.good_b64 w1 w2 (e0 := Jvm.FP.Core.b64.qmin) (Int.le_refl _) he ?_
    rw [hu, w3, Int.sub_self]
    show _ * ((1 : Nat) : Int) ≤ _
    rw [show ((1 : Nat) : Int) = 1 from rfl, Int.mul_one]
    omega
  unfold dB
  rw [hv]
  exact ⟨fun h => Jvm.FP.Core.roundRatio_ne_nan _ _ _ _ _ h, by omega, by omega⟩
theorem dB_neg {n : Int} {a : UInt64} (h : dB n a) : dB n (Jvm.FP.Core.dneg a) := by
  obtain ⟨h1, h2, h3⟩ := h
  unfold dB
  rw [Jvm.FP.Core.val64_dneg, Jvm.FP.Core.zval_negate]
  exact ⟨Jvm.FP.Core.negate_ne_nan h1, by omega, by omega⟩
theorem dB_sub {m n : Int} {a b : UInt64} (ha : dB m a) (hb : dB n b) (h : m + n ≤ 9007199254740992) : dB (m + n) (FP.dsub a b) := by
  show dB (m + n) (Jvm.FP.Core.dsub a b)
  rw [Jvm.FP.Core.dsub_eq]
  exact dB_add ha (dB_neg hb) h
theorem dB_int (v : Int32) {n : Int} (h1 : -n ≤ v.toInt) (h2 : v.toInt ≤ n) : dB n (FP.i2d v) := by
  have w := Jvm.FP.Core.i2d_int v
  have ho : (0 : Int) ≤ (Jvm.FP.Core.one64 : Int) := Int.natCast_nonneg _
  refine ⟨Jvm.FP.Core.DInt_ne_nan w, ?_, ?_⟩
  · show _ ≤ Jvm.FP.Core.zval Jvm.FP.Core.b64 (Jvm.FP.Core.val64 (Jvm.FP.Core.i2d v))
    rw [Jvm.FP.Core.DInt_zval w, ← Int.neg_mul]
    exact Int.mul_le_mul_of_nonneg_right h1 ho
  · show Jvm.FP.Core.zval Jvm.FP.Core.b64 (Jvm.FP.Core.val64 (Jvm.FP.Core.i2d v)) ≤ _
    rw [Jvm.FP.Core.DInt_zval w]
    exact Int.mul_le_mul_of_nonneg_right h2 ho
theorem dB_zero {n : Int} (h : 0 ≤ n) : dB n 0 := by
  have hm := Int.mul_nonneg h (show (0 : Int) ≤ (Jvm.FP.Core.one64 : Int) from Int.natCast_nonneg _)
  refine ⟨by rw [Jvm.FP.Core.val64_zero]; exact Jvm.FP.Core.Datum.noConfusion, ?_, ?_⟩ <;> rw [Jvm.FP.Core.zval64_zero] <;> omega
theorem dB_N {n : Int} {x : UInt64} (h : dB n x) : dN x := h.1
/-- no NaN comes out -/
theorem dN_add {a b : UInt64} (ha : dN a) (hb : Jvm.FP.Core.DFin b) : dN (FP.dadd a b) :=
  (Jvm.FP.Core.notNaN_iff _).mp (Jvm.FP.Core.dadd_out ((Jvm.FP.Core.notNaN_iff a).mpr ha) hb)
theorem dN_div {a : UInt64} {v : Int32} (ha : dN a) (hv : v ≠ 0) : dN (FP.ddiv a (FP.i2d v)) :=
  (Jvm.FP.Core.notNaN_iff _).mp (Jvm.FP.Core.ddiv_out ((Jvm.FP.Core.notNaN_iff a).mpr ha) (Jvm.FP.Core.i2d_fin v) (fun hz => Jvm.FP.Core.i2d_ne_zero hv ((Jvm.FP.Core.zero_bits2 _).mp hz)))
theorem dN_mul {v : Int32} {b : UInt64} (hb : Jvm.FP.Core.DFin b) : dN (FP.dmul (FP.i2d v) b) :=
  (Jvm.FP.Core.notNaN_iff _).mp (Jvm.FP.Core.dmul_out (Jvm.FP.Core.i2d_fin v) hb)
theorem dN_mul' {v : Int32} {b : UInt64} (hb : Jvm.FP.Core.DFin b) : dN (FP.dmul b (FP.i2d v)) :=
  (Jvm.FP.Core.notNaN_iff _).mp (Jvm.FP.Core.dmul_out hb (Jvm.FP.Core.i2d_fin v))
/-- between two bounds -/
theorem dB_between {n : Int} {x lo hi : UInt64} (h1 : Jvm.FP.Core.dcmp x lo = some .gt ∨ Jvm.FP.Core.dcmp x lo = some .eq) (h2 : Jvm.FP.Core.dcmp x hi = some .lt ∨ Jvm.FP.Core.dcmp x hi = some .eq) (hl : dB n lo) (hh : dB n hi) : dB n x := by
  obtain ⟨a1, _, a2⟩ := Jvm.FP.Core.dcmp_ge.mp h1
  obtain ⟨_, _, b2⟩ := Jvm.FP.Core.dcmp_le.mp h2
  obtain ⟨_, l1, _⟩ := hl
  obtain ⟨_, _, u1⟩ := hh
  exact ⟨a1, by omega, by omega⟩
