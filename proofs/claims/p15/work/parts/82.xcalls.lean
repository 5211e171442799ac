/-! the law's calls of the class, over what it keeps -/
section XL
variable {n : Int} {K : KX} {u : gS} {f : Nat → Int64} {post : Int32 → gS × (Nat → Int64) → Prop}
theorem l_submit {p1 : Int32} (hK : KI K) (hI : IX n K u) (k : ∀ c z, IX n K z.1 → post c z) : wpL_submit K post u f p1 := by
  unfold wpL_submit wpX0_submit
  exact x_known hK (fun y hy => ⟨y, rfl, hy, fun _ => x_admit0 hK hI hy (fun u7 h7 => ⟨fun _ => k _ _ h7, fun _ => Or.inr (Or.inr (Or.inr ⟨rfl, k _ _ h7⟩))⟩), fun _ => Or.inr (Or.inr (Or.inl ⟨rfl, k _ _ hI⟩))⟩) (Or.inl ⟨rfl, k _ _ hI⟩) (Or.inr (Or.inl ⟨rfl, k _ _ hI⟩))
theorem l_then {p1 p2 : Int32} (hK : KI K) (hI : IX n K u) (k : ∀ c z, IX n K z.1 → post c z) : wpL_then K post u f p1 p2 := by
  unfold wpL_then wpX0_then
  refine x_checkRange (fun _ _ => x_known hK (fun y hy => x_known hK (fun y' hy' => ⟨fun _ => ⟨y, rfl, hy, fun _ => x_nextNumber hI (fun r u13 e13 => k _ _ ?_), fun _ => Or.inr (Or.inr ⟨rfl, k _ _ hI⟩)⟩, fun _ => Or.inl ⟨rfl, k _ _ hI⟩⟩) (Or.inl ⟨rfl, k _ _ hI⟩) (Or.inr (Or.inl ⟨rfl, k _ _ hI⟩))) (Or.inl ⟨rfl, k _ _ hI⟩) (Or.inr (Or.inl ⟨rfl, k _ _ hI⟩))) (Or.inl ⟨rfl, k _ _ hI⟩)
  subst e13
  exact IX_Q3 hI (fun z e => by cases e; exact hy')
theorem l_step {p1 : Int32} (hn : n ≤ 1000000000) (hK : KI K) (hI : IX n K u) (k : ∀ c z, IX n K z.1 → post c z) : wpL_step K post u f p1 := by
  unfold wpL_step wpX0_step
  refine x_checkRange (fun h1 h2 x3 e3 => ?_) ⟨rfl, k _ _ hI⟩
  obtain ⟨c, ec⟩ : ∃ c : Nat, p1 = iN c ∧ c ≤ 10 := by
    have h0 : (0 : Int32) ≤ p1 := Int32.le_trans (by decide) h1
    refine ⟨p1.toNatClampNeg, iN_of h0, ?_⟩
    have := iN_of h0
    rw [this] at h2
    have hb : p1.toNatClampNeg < 2147483648 := by
      have : p1.toNatClampNeg = p1.toInt.toNat := rfl
      have := p1.toInt_lt
      omega
    exact (iN_le (a := p1.toNatClampNeg) (b := 10) hb (by omega)).mp h2
  have key : ∀ d i v, i + d = c → IX n K v → wpX0_step_14 K (fun (r : Int32) (u1 : gS) => post 0 (u1, vp_updL f (0 : Int32).toNatClampNeg r.toInt64)) (fun (E : String) (u1 : gS) => (E = "java/lang/IllegalArgumentException" ∧ post 1 (u1, f))) (d + 1) p1 x3 (iN i) v := by
    intro d
    induction d with
    | zero =>
      intro i v hi hv
      refine ⟨fun _ => x_endIf hv (fun u' h => k _ _ h), fun h => ?_⟩
      rw [ec.1] at h
      have := x_c0 (by omega) (by omega) h; omega
    | succ d ih =>
      intro i v hi hv
      refine ⟨fun _ => x_endIf hv (fun u' h => k _ _ h), fun _ => x_runStep hn hK hv (fun u8 h8 x9 e9 => ?_)⟩
      rw [e9, iN_succ]; exact ih (i + 1) u8 (by omega) h8
  exact ⟨c + 1, key c 0 u (by omega) hI⟩
theorem x_cancelRest {P : gS → Prop} {y : Nat} (hn : n ≤ 1000000000) (hI : IX n K u) (k : ∀ u', IX n K u' → P u') : wpX1_placeOf K (fun (r13 : Int32) (u14 : gS) => wpX1_at K (fun (r15 : Option Nat) (u16 : gS) => wpX0_freeWorker K (fun (u18 : gS) => wpX0_endIfSettled K (fun (u20 : gS) => P u20) u18) u16 r15) u14 r13) u (some y) :=
  x_placeOf hI (fun r => x_at hI (fun r15 h15 => x_free hn hI (fun w e => (h15 w e).1) (fun u18 h18 => x_endIf h18 k)))
theorem l_cancel {p1 p2 : Int32} (hn : n ≤ 1000000000) (hK : KI K) (hI : IX n K u) (k : ∀ c z, IX n K z.1 → post c z) : wpL_cancel K post u f p1 p2 := by
  unfold wpL_cancel wpX0_cancel
  refine x_known hK (fun y hy => ⟨y, rfl, hy, fun x5 e5 => ⟨fun _ => Or.inr (Or.inr ⟨rfl, k _ _ hI⟩), fun _ => ⟨fun _ u8 e8 => ?_, fun _ => ⟨fun _ u8 e8 => ?_, fun _ => Or.inr (Or.inr ⟨rfl, k _ _ hI⟩)⟩⟩⟩⟩) (Or.inl ⟨rfl, k _ _ hI⟩) (Or.inr (Or.inl ⟨rfl, k _ _ hI⟩))
  · have h8 : IX n K u8 := by rw [e8]; exact IX_A hI
    exact ⟨fun _ => ⟨fun _ => x_endIf h8 (fun u' h => k _ _ h), fun _ => x_cancelRest hn h8 (fun u' h => k _ _ h)⟩, fun _ => x_linePlace h8 (fun r => x_lineRemove h8 (fun r23 u24 _ h24 => ⟨fun _ => x_endIf h24 (fun u' h => k _ _ h), fun _ => x_cancelRest hn h24 (fun u' h => k _ _ h)⟩))⟩
  · have h8 : IX n K u8 := by rw [e8]; exact IX_A hI
    exact ⟨fun _ => ⟨fun _ => x_endIf h8 (fun u' h => k _ _ h), fun _ => x_cancelRest hn h8 (fun u' h => k _ _ h)⟩, fun _ => x_linePlace h8 (fun r => x_lineRemove h8 (fun r23 u24 _ h24 => ⟨fun _ => x_endIf h24 (fun u' h => k _ _ h), fun _ => x_cancelRest hn h24 (fun u' h => k _ _ h)⟩))⟩
theorem l_get {p1 : Int32} (hK : KI K) (hI : IX n K u) (k : ∀ c z, IX n K z.1 → post c z) : wpL_get K post u f p1 := by
  unfold wpL_get wpX0_get
  have e1 : post 1 (u, f) := k _ _ hI
  have e2 : post 2 (u, f) := k _ _ hI
  have e3 : post 3 (u, f) := k _ _ hI
  have e4 : post 4 (u, f) := k _ _ hI
  have e5 : post 5 (u, f) := k _ _ hI
  have e6 : post 6 (u, f) := k _ _ hI
  exact x_known hK (fun y hy => ⟨y, rfl, hy, fun _ => ⟨fun _ => ⟨fun _ => Or.inr (Or.inr (Or.inr (Or.inr (Or.inr ⟨rfl, e6⟩)))), fun _ => ⟨fun _ => Or.inr (Or.inr (Or.inr (Or.inr (Or.inl ⟨rfl, e5⟩)))), fun _ => ⟨fun _ => Or.inr (Or.inr (Or.inl ⟨rfl, e3⟩)), fun _ => ⟨fun _ => Or.inr (Or.inr (Or.inr (Or.inl ⟨rfl, e4⟩))), fun _ => Or.inr (Or.inr (Or.inl ⟨rfl, e3⟩))⟩⟩⟩⟩, fun _ => Or.inr (Or.inl ⟨rfl, e2⟩)⟩, fun _ => k _ _ hI⟩) (Or.inl ⟨rfl, e1⟩) (Or.inr (Or.inl ⟨rfl, e2⟩))
theorem l_clock {p1 : Int32} {p2 p3 : UInt64} (hn : n ≤ 1000000000) (hK : KI K) (hI : IX n K u) (k : ∀ c z, IX (n + 1000) K z.1 → post c z) : wpL_clock K post u f p1 p2 p3 := by
  unfold wpL_clock wpX0_clock
  have hI' : IX (n + 1000) K u := IX_mono hI (by omega)
  have hm : dB 1000 (FP.i2d 1000) := dB_int 1000 (by decide) (by decide)
  refine x_checkSpan hm (fun h2 => x_checkSpan hm (fun h3 => x_known hK (fun y hy => ⟨fun _ => Or.inr (Or.inr ⟨rfl, k _ _ hI'⟩), fun _ => ⟨fun _ => ?_, fun _ => Or.inr (Or.inr ⟨rfl, k _ _ hI'⟩)⟩⟩) (Or.inl ⟨rfl, k _ _ hI'⟩) (Or.inr (Or.inl ⟨rfl, k _ _ hI'⟩))) (Or.inl ⟨rfl, k _ _ hI'⟩)) (Or.inl ⟨rfl, k _ _ hI'⟩)
  have ha : dB (n + 1000) (FP.dadd (sD u 0) p2) := dB_add hI.2.2.2.2.2.2.1 h2 (by omega)
  exact ⟨dN_n64 ha.1, y, rfl, hy, x_put hI' hy ha h3 (fun u' h => k _ _ h)⟩
theorem l_tick {p1 : UInt64} (h0 : 0 ≤ n) (hn : n ≤ 900000000) (hK : KI K) (hI : IX n K u) (k : ∀ c z, IX (n + 25000) K z.1 → post c z) : wpL_tick K post u f p1 := by
  unfold wpL_tick wpX0_tick
  have hm : dB 100 (FP.i2d 100) := dB_int 100 (by decide) (by decide)
  refine x_checkSpan hm (fun h1 => ?_) ⟨rfl, k _ _ (IX_mono hI (by omega))⟩
  have ha : dB (n + 100) (FP.dadd (sD u 0) p1) := dB_add hI.2.2.2.2.2.2.1 h1 (by omega)
  refine ⟨dN_n64 ha.1, fun x3 e3 => ?_⟩
  rw [← e3] at ha
  have key : ∀ (d i : Nat) (v : gS), i + d = 20 → IX (n + 100 + 1000 * (i : Int)) K v → wpX0_tick_16 K (fun (r : Int32) (u1 : gS) => post 0 (u1, vp_updL f (0 : Int32).toNatClampNeg r.toInt64)) (fun (E : String) (u1 : gS) => (E = "java/lang/IllegalArgumentException" ∧ post 1 (u1, f))) (d + 1) p1 x3 (iN i) v := by
    intro d
    induction d with
    | zero =>
      intro i v hi hv
      refine ⟨fun _ u5 e5 => ?_, fun h => ?_⟩
      · subst e5
        exact x_longIdle (by omega) (IX_D0 hv (dB_mono ha (by omega))) (fun u' h => k _ _ (IX_mono h (by omega)))
      · have := x_c0 (c := 20) (by omega) (by omega) h; omega
    | succ d ih =>
      intro i v hi hv
      have hd : ∀ u5 : gS, u5 = tD v 0 x3 → wpX0_dismissLongIdle K (fun (u7 : gS) => post 0 (u7, vp_updL f (0 : Int32).toNatClampNeg (iN i).toInt64)) u5 := fun u5 e5 => by
        subst e5
        exact x_longIdle (by omega) (IX_D0 hv (dB_mono ha (by omega))) (fun u' h => k _ _ (IX_mono h (by omega)))
      refine ⟨fun _ u5 e5 => hd u5 e5, fun _ => x_hasEntry hv (fun r8 => ⟨fun _ u11 e11 => hd u11 e11, fun _ => x_firstPlace hv (fun r14 _ => x_fire hK (by omega) hv (fun u17 h17 x18 e18 => ?_))⟩)⟩
      rw [e18, iN_succ]
      exact ih (i + 1) u17 (by omega) (IX_mono h17 (by omega))
  exact ⟨21, key 20 0 u (by omega) (IX_mono hI (by omega))⟩
theorem l_shut {p1 : Int32} (hI : IX n K u) (k : ∀ c z, IX n K z.1 → post c z) : wpL_shut K post u f p1 := by
  unfold wpL_shut wpX0_shut
  refine ⟨fun _ u2 e2 => ?_, fun _ => ⟨rfl, k _ _ hI⟩⟩
  have h2 : IX n K u2 := by rw [e2]; exact IX_I0 hI
  exact ⟨fun _ => x_endIf h2 (fun u' h => k _ _ h), fun _ => x_cancelLine h2 (fun r6 u7 h7 => x_cancelCrew h7 h7.2.2.2.2.2.2.1 (fun r8 u9 h9 x10 _ => x_endIf h9 (fun u' h => k _ _ h)))⟩
theorem l_about {p1 p2 : Int32} (hK : KI K) (hI : IX n K u) (k : ∀ c z, IX n K z.1 → post c z) : wpL_about K post u f p1 p2 := by
  unfold wpL_about wpX0_about
  exact x_checkRange (fun _ _ => x_known hK (fun y hy => ⟨fun _ => ⟨y, rfl, hy, k _ _ hI⟩, fun _ => ⟨fun _ => ⟨y, rfl, hy, k _ _ hI⟩, fun _ => ⟨fun _ => ⟨y, rfl, hy, x_nextNumber hI (fun r => k _ _ hI)⟩, fun _ => ⟨fun _ => ⟨y, rfl, hy, x_place hI (fun r => k _ _ hI)⟩, fun _ => ⟨y, rfl, hy, fun _ => k _ _ hI, fun _ => k _ _ hI⟩⟩⟩⟩⟩) (Or.inl ⟨rfl, k _ _ hI⟩) (Or.inr ⟨rfl, k _ _ hI⟩)) (Or.inl ⟨rfl, k _ _ hI⟩)
theorem l_worker {p1 : Int32} (hI : IX n K u) (k : ∀ c z, IX n K z.1 → post c z) : wpL_worker K post u f p1 := by
  unfold wpL_worker wpX0_worker
  exact x_at hI (fun r1 h1 => ⟨fun _ => ⟨rfl, k _ _ hI⟩, fun y3 e3 => ⟨(h1 y3 e3).1, k _ _ hI⟩⟩)
theorem l_count {p1 : Int32} (hI : IX n K u) (k : ∀ c z, IX n K z.1 → post c z) : wpL_count K post u f p1 := by
  unfold wpL_count wpX0_count
  exact x_checkRange (fun _ _ => ⟨fun _ => k _ _ hI, fun _ => ⟨fun _ => k _ _ hI, fun _ => ⟨fun _ => x_busy hI (fun r => k _ _ hI), fun _ => ⟨fun _ => k _ _ hI, fun _ => ⟨fun _ => k _ _ hI, fun _ => ⟨fun _ => k _ _ hI, fun _ => ⟨fun _ => k _ _ hI, fun _ => k _ _ hI⟩⟩⟩⟩⟩⟩⟩) ⟨rfl, k _ _ hI⟩
theorem l_delay {g : Nat → UInt64} {post : Int32 → gS × (Nat → UInt64) → Prop} (hI : IX n K u) (k : ∀ c z, IX n K z.1 → post c z) : wpL_delay K post u g := by
  unfold wpL_delay wpX0_delay
  exact ⟨fun h => ⟨dN_n64 (dN_div hI.2.2.2.2.2.2.2.1 h), k _ _ hI⟩, fun _ => ⟨rfl, k _ _ hI⟩⟩
theorem l_due {g : Nat → UInt64} {post : Int32 → gS × (Nat → UInt64) → Prop} (hI : IX n K u) (k : ∀ c z, IX n K z.1 → post c z) : wpL_due K post u g := by
  unfold wpL_due wpX0_due
  refine x_firstPlace hI (fun r hr => ⟨fun h0 => ⟨?_, k _ _ hI⟩, fun _ => ⟨rfl, k _ _ hI⟩⟩)
  rcases hr with h1 | ⟨j, ej, hj⟩
  · exact absurd h0 (Int32.not_le.mpr h1)
  · rw [ej]; exact iN_in hj (by omega)
/-- a job more -/
theorem IX_job {q : Nat} {p1 p2 p3 p4 : Int32} (hI : IX n K u) : IX n (xKj K q p1 p2 p3 p4) (xUj u q) := by
  have hm : ∀ z, z ∈ K.2.2.1 → z ∈ (xKj K q p1 p2 p3 p4).2.2.1 := fun z h => List.mem_append_left _ h
  obtain ⟨h1, ⟨c, hc, e, hl⟩, ⟨d, hd, e', hl'⟩, h4, h5, h6, h7⟩ := hI
  refine ⟨h1, ⟨c, hc, e, fun i hi => ?_⟩, ⟨d, hd, e', fun i hi => ?_⟩, h4, fun q' y ey => ?_, fun w y ey => ?_, h7⟩
  · obtain ⟨z, z1, z2⟩ := hl i hi; exact ⟨z, hm z z1, z2⟩
  · obtain ⟨z, z1, z2⟩ := hl' i hi; exact ⟨z, hm z z1, z2⟩
  · unfold xUj at ey
    rw [sQ_tQ, if_pos rfl] at ey
    by_cases hq : q' = q
    · rw [if_pos hq] at ey; cases ey
    · rw [if_neg hq] at ey; exact hm _ (h5 q' y ey)
  · exact hm _ (h6 w y ey)
theorem KI_job {q : Nat} {p1 p2 p3 p4 : Int32} {c : Nat} (hc : c < 24) (e : K.1 4 = iN c) (hl : ∀ i, i < c → ∃ q, q ∈ K.2.2.1 ∧ K.2.2.2.2 i = some q) : KI (xKj K q p1 p2 p3 p4) ∧ (xKj K q p1 p2 p3 p4).1 4 = iN (c + 1) := by
  have e4 : (xKj K q p1 p2 p3 p4).1 4 = iN (c + 1) := by
    show K.1 4 + 1 = iN (c + 1)
    rw [e, iN_succ]
  refine ⟨⟨c + 1, by omega, e4, fun i hi => ?_⟩, e4⟩
  show ∃ z, z ∈ K.2.2.1 ++ [q] ∧ va_up K.2.2.2.2 (K.1 4).toNatClampNeg (some q) i = some z
  rw [e, iN_nat (by omega)]
  unfold va_up
  by_cases hic : i = c
  · exact ⟨q, List.mem_append_right _ List.mem_cons_self, by rw [if_pos hic]⟩
  · obtain ⟨z, z1, z2⟩ := hl i (by omega)
    exact ⟨z, List.mem_append_left _ z1, by rw [if_neg hic]; exact z2⟩
theorem l_job {p1 p2 p3 p4 : Int32} {post : Int32 → (KX × gS) × (Nat → Int64) → Prop} {c : Nat} (hc : c ≤ 24) (e : K.1 4 = iN c)
    (k1 : (p1 < 0 ∨ ¬ p1 ≤ 5 ∨ p4 < 1 ∨ ¬ p4 ≤ 5) → post 1 ((K, u), f)) (k2 : ¬ (p1 < 0 ∨ ¬ p1 ≤ 5 ∨ p4 < 1 ∨ ¬ p4 ≤ 5) → c = 24 → post 2 ((K, u), f))
    (k0 : ¬ (p1 < 0 ∨ ¬ p1 ≤ 5 ∨ p4 < 1 ∨ ¬ p4 ≤ 5) → c < 24 → ∀ q, post 0 ((xKj K q p1 p2 p3 p4, xUj u q), vp_updL f (0 : Int32).toNatClampNeg (iN c).toInt64)) : wpL_job K post u f p1 p2 p3 p4 := by
  unfold wpL_job wpX0_job
  refine ⟨fun h => Or.inl ⟨rfl, k1 (Or.inl h)⟩, fun a1 => ⟨fun a2 => ⟨fun h => Or.inl ⟨rfl, k1 (Or.inr (Or.inr (Or.inl h)))⟩, fun a3 => ⟨fun a4 => ?_, fun h => Or.inl ⟨rfl, k1 (Or.inr (Or.inr (Or.inr h)))⟩⟩⟩, fun h => Or.inl ⟨rfl, k1 (Or.inr (Or.inl h))⟩⟩⟩
  have hok : ¬ (p1 < 0 ∨ ¬ p1 ≤ 5 ∨ p4 < 1 ∨ ¬ p4 ≤ 5) := by
    rintro (h | h | h | h)
    · exact a1 h
    · exact h a2
    · exact a3 h
    · exact h a4
  refine ⟨fun h => ?_, fun h => Or.inr ⟨rfl, k2 hok ?_⟩⟩
  · rw [e] at h
    have hlt : c < 24 := (iN_lt (a := c) (b := 24) (by omega) (by omega)).mp h
    refine ⟨by rw [e]; exact iN_in hlt (by omega), fun q _ => ?_⟩
    have := k0 hok hlt q
    rw [e, Int32.add_sub_cancel]
    exact this
  · rw [e] at h
    have := mt (iN_lt (a := c) (b := 24) (by omega) (by omega)).mpr h
    omega
end XL
