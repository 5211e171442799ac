/-! class and reference: the start, and what is kept from call to call -/
def pN (k : Nat) : Int := 30000 * ((k : Int) + 1)
def pB (k : Nat) : Nat := 100 * (k + 1)
def pInv (KMv : KM) (k : Nat) (K : KX) (u v : gS) : Prop := KMI KMv ∧ ∃ j, JR (pN k) (pB k) KMv K j u v
theorem lg_cmp_self (x : Int64) : lg_cmp x x = 0 := by
  unfold lg_cmp
  simp
theorem d18 : Jvm.FP.Core.DFin 4593671619917905920 := ⟨_, _, _, rfl⟩
theorem pInv_of {KMv : KM} {k B j : Nat} {n : Int} {K : KX} {u v : gS} (hM : KMI KMv) (h : JR n B KMv K j u v) (hn : n ≤ pN (k + 1)) (hB : B ≤ pB (k + 1)) : pInv KMv (k + 1) K u v := by
  obtain ⟨w, q, e, hR, hE⟩ := h
  exact ⟨hM, j, w, q, e, RR_n (RR_B hR hB) hn, hE⟩
/-- a call whose answer isn't compared -/
theorem JW_go {X : (Int32 → gS × (Nat → Int64) → Prop) → Prop} {M : (Int32 → gS → Prop) → Prop} {Rel J : gS → gS → Prop} (h : JW X M Rel) (hJ : ∀ u' v', Rel u' v' → J u' v') : X (fun r5 z6 => M (fun r7 v8 => J z6.1 v8)) := by
  obtain ⟨c, r, f', u', v', hx, hm, hR⟩ := h
  exact hx _ (hm _ (hJ _ _ hR))
theorem JD_go {f : Nat → UInt64} {X : (Int32 → gS × (Nat → UInt64) → Prop) → Prop} {M : (UInt64 → gS → Prop) → Prop} {Rel J : gS → gS → Prop} (h : JD f X M Rel) (hJ : ∀ u' v', Rel u' v' → J u' v') : X (fun r5 z6 => M (fun r7 v8 => J z6.1 v8)) := by
  obtain ⟨c, r, u', v', hx, hm, _, hR, _⟩ := h
  exact hx _ (hm _ (hJ _ _ hR))
/-- a call whose answer is compared -/
theorem JA_cmp {KMv : KM} {f : Nat → Int64} {X : (Int32 → gS × (Nat → Int64) → Prop) → Prop} {M : (Int32 → gS → Prop) → Prop} {Rel J : gS → gS → Prop} (h : JA f X M Rel) (hJ : ∀ u' v', Rel u' v' → J u' v') : X (fun r5 z6 => M (fun r7 v8 => wpM6_thrown KMv (fun r9 v10 => ((r9 = r5 → (((¬ r5 = 0 → (J z6.1 v10)) ∧ (r5 = 0 → ((((lg_cmp (z6.2 (0 : Int32).toNatClampNeg) r7.toInt64) = 0 → (J z6.1 v10)) ∧ (¬ (lg_cmp (z6.2 (0 : Int32).toNatClampNeg) r7.toInt64) = 0 → (False)))))))) ∧ (¬ r9 = r5 → (False)))) v8)) := by
  obtain ⟨c, r, u', v', hx, hm, h0, hR⟩ := h
  refine hx _ (hm _ ⟨fun _ => ⟨fun _ => hJ _ _ hR, fun hc => ⟨fun _ => hJ _ _ hR, fun hne => hne ?_⟩⟩, fun hne => hne h0⟩)
  show lg_cmp ((if c = 0 then vp_updL f (0 : Int32).toNatClampNeg r.toInt64 else f) (0 : Int32).toNatClampNeg) r.toInt64 = 0
  rw [if_pos hc, show vp_updL f (0 : Int32).toNatClampNeg r.toInt64 (0 : Int32).toNatClampNeg = r.toInt64 from by simp [vp_updL]]
  exact lg_cmp_self _
theorem mClamp_in {x lo hi : Int32} (h : lo ≤ hi) : lo ≤ mClamp x lo hi ∧ mClamp x lo hi ≤ hi := by
  unfold mClamp
  by_cases h1 : lo ≤ x
  · rw [if_pos h1]
    by_cases h2 : x ≤ hi
    · rw [if_pos h2]; exact ⟨h1, h2⟩
    · rw [if_neg h2]; exact ⟨h, Int32.le_refl _⟩
  · rw [if_neg h1]; exact ⟨Int32.le_refl _, h⟩
theorem iN_btw {x : Int32} {c : Nat} (h0 : 0 ≤ x) (h1 : x ≤ iN c) (hc : c < 2147483647) : ∃ a, a ≤ c ∧ x = iN a := by
  have hb : x.toNatClampNeg < 2147483648 := by
    have : x.toNatClampNeg = x.toInt.toNat := rfl
    have := x.toInt_lt
    omega
  refine ⟨x.toNatClampNeg, ?_, iN_of h0⟩
  rw [iN_of h0] at h1
  exact (iN_le hb (by omega)).mp h1
theorem mK0_0 (p1 p2 p3 p4 : Int32) : mK0 p1 p2 p3 p4 0 = mClamp p1 0 3 := by simp [mK0, va_up]
theorem mK0_1 (p1 p2 p3 p4 : Int32) : mK0 p1 p2 p3 p4 1 = mClamp p2 (if mClamp p1 0 3 ≤ 1 then 1 else mClamp p1 0 3) 5 := by simp [mK0, va_up]
theorem mK0_2 (p1 p2 p3 p4 : Int32) : mK0 p1 p2 p3 p4 2 = mClamp p3 0 4 := by simp [mK0, va_up]
theorem mK0_3 (p1 p2 p3 p4 : Int32) : mK0 p1 p2 p3 p4 3 = mClamp p4 0 3 := by simp [mK0, va_up]
theorem xK0_0 (p1 p2 p3 p4 : Int32) : xK0 p1 p2 p3 p4 0 = xClamp p1 0 3 := by simp [xK0, va_up]
theorem xK0_1 (p1 p2 p3 p4 : Int32) : xK0 p1 p2 p3 p4 1 = if xClamp p2 1 5 < xClamp p1 0 3 then xClamp p1 0 3 else xClamp p2 1 5 := by simp [xK0, va_up]
theorem xK0_2 (p1 p2 p3 p4 : Int32) : xK0 p1 p2 p3 p4 2 = xClamp p3 0 4 := by simp [xK0, va_up]
theorem xK0_3 (p1 p2 p3 p4 : Int32) : xK0 p1 p2 p3 p4 3 = xClamp p4 0 3 := by simp [xK0, va_up]
theorem clamp_eq {x lo hi : Int32} (h : lo ≤ hi) : xClamp x lo hi = mClamp x lo hi := by
  unfold xClamp mClamp
  by_cases h1 : lo ≤ x
  · rw [if_neg (Int32.not_lt.mpr h1), if_pos h1]
    by_cases h2 : x ≤ hi
    · rw [if_neg (Int32.not_lt.mpr h2), if_pos h2]
    · rw [if_pos (Int32.not_le.mp h2), if_neg h2]
  · rw [if_pos (Int32.not_le.mp h1), if_neg h1, if_neg (Int32.not_lt.mpr h)]
theorem clamp_max {x c : Int32} (h3 : c ≤ 3) : (if mClamp x 1 5 < c then c else mClamp x 1 5) = mClamp x (if c ≤ 1 then 1 else c) 5 := by
  have m1 := mClamp_in (x := x) (lo := 1) (hi := 5) (by decide)
  have c5 : c ≤ 5 := Int32.le_trans h3 (by decide)
  by_cases hc1 : c ≤ 1
  · rw [if_pos hc1, if_neg (Int32.not_lt.mpr (Int32.le_trans hc1 m1.1))]
  · rw [if_neg hc1]
    unfold mClamp
    by_cases h1 : c ≤ x
    · have h1' : (1 : Int32) ≤ x := Int32.le_trans (Int32.le_of_lt (Int32.not_le.mp hc1)) h1
      rw [if_pos h1', if_pos h1]
      by_cases h5 : x ≤ 5
      · rw [if_pos h5, if_neg (Int32.not_lt.mpr h1)]
      · rw [if_neg h5, if_neg (Int32.not_lt.mpr c5)]
    · rw [if_neg h1]
      by_cases h1' : (1 : Int32) ≤ x
      · have h5 : x ≤ 5 := Int32.le_trans (Int32.le_of_lt (Int32.not_le.mp h1)) c5
        rw [if_pos h1', if_pos h5, if_pos (Int32.not_le.mp h1)]
      · rw [if_neg h1', if_pos (Int32.not_le.mp hc1)]
theorem mlo {x : Int32} (h : 0 ≤ x ∧ x ≤ 3) : (0 : Int32) ≤ (if x ≤ 1 then 1 else x) ∧ (if x ≤ 1 then 1 else x) ≤ 5 := by
  by_cases h1 : x ≤ 1
  · rw [if_pos h1]; exact ⟨by decide, by decide⟩
  · rw [if_neg h1]; exact ⟨h.1, Int32.le_trans h.2 (by decide)⟩
theorem n3 : (3 : Int32) = iN 3 := by decide
theorem n4 : (4 : Int32) = iN 4 := by decide
theorem n5 : (5 : Int32) = iN 5 := by decide
theorem KMI_start (p1 p2 p3 p4 : Int32) : KMI (mK0 p1 p2 p3 p4) := by
  have c0 := mClamp_in (x := p1) (lo := 0) (hi := 3) (by decide)
  have clo := mlo c0
  have c1 := mClamp_in (x := p2) clo.2
  have c2 := mClamp_in (x := p3) (lo := 0) (hi := 4) (by decide)
  have b1 := Int32.le_trans clo.1 c1.1
  refine ⟨?_, ?_, ?_⟩
  · rw [mK0_0]
    have h := c0.2
    have h' := c0.1
    clear clo c1 b1
    generalize mClamp p1 0 3 = z at *
    rw [n3] at h
    exact iN_btw h' h (by omega)
  · rw [mK0_1]
    have h := c1.2
    generalize mClamp p2 (if mClamp p1 0 3 ≤ 1 then 1 else mClamp p1 0 3) 5 = z at *
    rw [n5] at h
    exact iN_btw b1 h (by omega)
  · rw [mK0_2]
    have h := c2.2
    have h' := c2.1
    generalize mClamp p3 0 4 = z at *
    rw [n4] at h
    exact iN_btw h' h (by omega)
theorem pInv_start (p1 p2 p3 p4 : Int32) (w : Nat → Nat) (hw : ∀ a b : Nat, a < 5 → b < 5 → w a = w b → a = b) : pInv (mK0 p1 p2 p3 p4) 0 (xK0 p1 p2 p3 p4, [w 0, w 1, w 2, w 3, w 4], [], (fun _ _ => 0), (fun _ => none)) (xU0 w) mU0 := by
  have z : ∀ {n : Int}, 0 ≤ n → dB n 0 := fun h => dB_zero h
  have zN : dN 0 := (z (n := 0) (by omega)).1
  have hp : (0 : Int) ≤ pN 0 := by unfold pN; omega
  have aw : ∀ i, i < 5 → sQ (xU0 w) 0 i = some (w i) := fun i hi => by
    rcases (show i = 0 ∨ i = 1 ∨ i = 2 ∨ i = 3 ∨ i = 4 by omega) with rfl | rfl | rfl | rfl | rfl <;> rfl
  have aW' : ∀ i, i < 5 → aW (xU0 w) i = w i := fun i hi => by unfold aW; rw [aw i hi]; rfl
  refine ⟨KMI_start p1 p2 p3 p4, 0, 0, 0, 0, ⟨⟨⟨?_, ?_, ?_, ?_, rfl⟩, fun i hi => by omega⟩, ⟨rfl, rfl, rfl, rfl, rfl, rfl⟩, ⟨rfl, rfl, rfl⟩, fun i hi => by omega, fun i hi => by omega, fun i hi => by omega, fun i hi => by omega, ⟨fun i hi => ?_, fun a b ha hb hab => ?_⟩, fun i hi => by omega, fun i hi => by omega, fun i hi => by omega, ⟨fun k i hk => by omega, fun a b ha => by omega⟩, ⟨fun k i hk => by omega, fun a b ha => by omega⟩, ⟨0, rfl, by unfold pB; show 0 + 0 ≤ _; omega, fun i hi => by omega, fun a b hab hb => by omega⟩, ⟨fun i _ => ⟨rfl, rfl⟩, fun i hi => by omega⟩, ?_⟩, fun h1 => absurd (show (0 : Int32) = 1 from h1) (by decide)⟩
  · show xK0 p1 p2 p3 p4 0 = mK0 p1 p2 p3 p4 0
    rw [xK0_0, mK0_0]; exact clamp_eq (by decide)
  · show xK0 p1 p2 p3 p4 1 = mK0 p1 p2 p3 p4 1
    have c0 := mClamp_in (x := p1) (lo := 0) (hi := 3) (by decide)
    rw [xK0_1, mK0_1, clamp_eq (show (1 : Int32) ≤ 5 by decide), clamp_eq (show (0 : Int32) ≤ 3 by decide)]
    exact clamp_max c0.2
  · show xK0 p1 p2 p3 p4 2 = mK0 p1 p2 p3 p4 2
    rw [xK0_2, mK0_2]; exact clamp_eq (by decide)
  · show xK0 p1 p2 p3 p4 3 = mK0 p1 p2 p3 p4 3
    rw [xK0_3, mK0_3]; exact clamp_eq (by decide)
  · rw [aw i hi, aW' i hi]
    refine ⟨rfl, ?_⟩
    show w i ∈ [w 0, w 1, w 2, w 3, w 4]
    rcases (show i = 0 ∨ i = 1 ∨ i = 2 ∨ i = 3 ∨ i = 4 by omega) with rfl | rfl | rfl | rfl | rfl <;> simp
  · rw [aW' a ha, aW' b hb] at hab
    exact hw a b ha hb hab
  · exact ⟨⟨by omega, by omega, by omega, by omega⟩, ⟨rfl, rfl, rfl, rfl, rfl⟩, fun i hi => by omega, fun i hi => by omega, fun i hi => by omega, fun i hi => by omega, fun i hi => by omega, fun i hi => by omega, fun i hi => rfl, fun f hf => by omega, Nat.zero_le _, z hp, zN, fun _ => z hp, fun _ => z hp, fun _ => z hp, fun _ => z (by omega)⟩
