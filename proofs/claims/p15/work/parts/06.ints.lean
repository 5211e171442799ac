/-! small ints as natural numbers -/
def iN (k : Nat) : Int32 := Int32.ofNat k
theorem iN_toInt {k : Nat} (h : k < 2147483648) : (iN k).toInt = k := Int32.toInt_ofNat_of_lt h
theorem iN_nat {k : Nat} (h : k < 2147483648) : (iN k).toNatClampNeg = k := Int32.toNatClampNeg_ofNat_of_lt h
theorem iN_add (a b : Nat) : iN a + iN b = iN (a + b) := (Int32.ofNat_add a b).symm
theorem iN_succ (k : Nat) : iN k + 1 = iN (k + 1) := (Int32.ofNat_add k 1).symm
theorem iN_pred {k : Nat} (h : 0 < k) : iN k - 1 = iN (k - 1) := by
  obtain ⟨j, rfl⟩ : ∃ j, k = j + 1 := ⟨k - 1, by omega⟩
  rw [← iN_succ, Int32.add_sub_cancel]; rfl
theorem iN_predM {k : Nat} (h : 0 < k) : iN k + (-1) = iN (k - 1) := by
  rw [← iN_pred h, Int32.sub_eq_add_neg]
theorem iN_lt {a b : Nat} (ha : a < 2147483648) (hb : b < 2147483648) : iN a < iN b ↔ a < b := by
  rw [Int32.lt_iff_toInt_lt, iN_toInt ha, iN_toInt hb]; omega
theorem iN_le {a b : Nat} (ha : a < 2147483648) (hb : b < 2147483648) : iN a ≤ iN b ↔ a ≤ b := by
  rw [Int32.le_iff_toInt_le, iN_toInt ha, iN_toInt hb]; omega
theorem iN_inj {a b : Nat} (ha : a < 2147483648) (hb : b < 2147483648) : iN a = iN b ↔ a = b := by
  constructor
  · intro h
    have e := congrArg Int32.toInt h
    rw [iN_toInt ha, iN_toInt hb] at e
    omega
  · intro h; rw [h]
theorem iN_nneg {k : Nat} (h : k < 2147483648) : ¬ iN k < 0 := by
  rw [Int32.lt_iff_toInt_lt, iN_toInt h]
  show ¬ (k : Int) < 0
  omega
theorem iN_0le {k : Nat} (h : k < 2147483648) : 0 ≤ iN k := by
  rw [Int32.le_iff_toInt_le, iN_toInt h]
  show (0 : Int) ≤ (k : Int)
  omega
theorem iN_in {k n : Nat} (h : k < n) (hn : n ≤ 2147483648) : vp_in (iN k) n := by
  rintro (h1 | h1)
  · exact iN_nneg (by omega) h1
  · rw [iN_nat (by omega)] at h1; omega
theorem iN_of {x : Int32} (h : 0 ≤ x) : x = iN x.toNatClampNeg := (Int32.ofNat_toNatClampNeg x h).symm
theorem iN_of2 {x : Int32} {n : Nat} (h : 0 ≤ x) (h2 : x < iN n) (hn : n < 2147483648) : ∃ k, x = iN k ∧ k < n := by
  refine ⟨x.toNatClampNeg, iN_of h, ?_⟩
  rw [iN_of h] at h2
  exact (iN_lt x.toNatClampNeg_lt hn).mp h2
theorem iN_negOr (x : Int32) : x < 0 ∨ ∃ k, x = iN k ∧ k < 2147483648 := by
  by_cases h : x < 0
  · exact Or.inl h
  · exact Or.inr ⟨x.toNatClampNeg, iN_of (Int32.not_lt.mp h), x.toNatClampNeg_lt⟩
