/-! the class's larger methods over what it keeps -/
theorem cv_l {o : Option Ordering} (h : ¬ Op.cmpValue o .l < 0) : o = some .gt ∨ o = some .eq := by
  rcases o with _ | o
  · exact absurd (by decide : Op.cmpValue none .l < 0) h
  · cases o
    · exact absurd (by decide : Op.cmpValue (some .lt) .l < 0) h
    · exact Or.inr rfl
    · exact Or.inl rfl
theorem cv_g {o : Option Ordering} (h : Op.cmpValue o .g ≤ 0) : o = some .lt ∨ o = some .eq := by
  rcases o with _ | o
  · exact absurd h (by decide)
  · cases o
    · exact Or.inl rfl
    · exact Or.inr rfl
    · exact absurd h (by decide)
section XM
variable {n : Int} {K : KX} {u : gS}
theorem x_put {post : gS → Prop} {p1 : Nat} {p2 p3 : UInt64} (hI : IX n K u) (hp : p1 ∈ K.2.2.1) (h2 : dB n p2) (h3 : dB 1000 p3) (k : ∀ u', IX n K u' → post u') : wpX3_put K post u p1 p2 p3 := by
  obtain ⟨c, hc, e, hl⟩ := id hI.2.2.1
  refine ⟨fun h => ?_, fun _ => k u hI⟩
  rw [e] at h
  have h4 : c < 10 := (iN_lt (a := c) (b := 10) (by omega) (by omega)).mp h
  refine ⟨by rw [e]; exact iN_in h4 (by omega), fun u2 e2 => ?_⟩
  rw [e, iN_nat (by omega)] at e2
  subst e2
  have e' : sI (tQ u 2 c (some p1)) 6 = iN c := e
  refine ⟨by rw [e']; exact iN_in h4 (by omega), fun u3 e3 => ?_⟩
  rw [e', iN_nat (by omega)] at e3
  subst e3
  have e' : sI (tB (tQ u 2 c (some p1)) 1 c p2) 6 = iN c := e
  refine ⟨by rw [e']; exact iN_in h4 (by omega), fun u4 e4 u5 e5 => ?_⟩
  rw [e', iN_nat (by omega)] at e4
  subst e4
  have e' : sI (tB (tB (tQ u 2 c (some p1)) 1 c p2) 2 c p3) 6 = iN c := e
  rw [e', iN_succ] at e5
  subst e5
  refine k _ (IX_T (IX_B2 (IX_B1 (IX_Q2 hI hp) h2) h3) (by omega) (fun i hi => ?_))
  show ∃ q, q ∈ K.2.2.1 ∧ sQ (tQ u 2 c (some p1)) 2 i = some q
  by_cases hic : i = c
  · exact ⟨p1, hp, by rw [sQ_tQ, if_pos rfl, if_pos hic]⟩
  · obtain ⟨q, q1, q2⟩ := hl i (by omega)
    exact ⟨q, q1, by rw [sQ_tQ, if_pos rfl, if_neg hic]; exact q2⟩
theorem x_firstPlace {post : Int32 → gS → Prop} (hI : IX n K u) (k : ∀ r, (r < 0 ∨ ∃ i, r = iN i ∧ i < 10) → post r u) : wpX3_firstPlace K post u := by
  obtain ⟨c, hc, e, hl⟩ := hI.2.2.1
  have key : ∀ d i l1, i + d = c → (l1 < 0 ∨ ∃ i, l1 = iN i ∧ i < 10) → wpX3_firstPlace_4 K post (d + 1) l1 (iN i) u := by
    intro d
    induction d with
    | zero =>
      intro i l1 hi h1
      refine ⟨fun _ => k _ h1, fun h => ?_⟩
      rw [e] at h
      have := x_c0 (by omega) (by omega) h; omega
    | succ d ih =>
      intro i l1 hi h1
      refine ⟨fun _ => k _ h1, fun h => ⟨fun _ x3 e3 => ?_, fun h0 => ⟨iN_in (by omega) (by omega), ?_, fun _ x5 e5 => ?_, fun _ x6 e6 => ?_⟩⟩⟩
      · rw [e3, iN_succ]; exact ih (i + 1) _ (by omega) (Or.inr ⟨i, rfl, by omega⟩)
      · rcases h1 with h1 | ⟨j, ej, hj⟩
        · exact absurd h1 h0
        · rw [ej]; exact iN_in hj (by omega)
      · rw [e5, iN_succ]; exact ih (i + 1) _ (by omega) h1
      · rw [e6, iN_succ]; exact ih (i + 1) _ (by omega) (Or.inr ⟨i, rfl, by omega⟩)
  exact ⟨c + 1, key c 0 (-1) (by omega) (Or.inl (by decide))⟩
theorem x_hasEntry {post : Int32 → gS → Prop} {p1 : UInt64} (hI : IX n K u) (k : ∀ r, post r u) : wpX3_hasEntryUpTo K post u p1 := by
  refine x_firstPlace hI (fun r hr => ⟨fun _ => ⟨rfl, k _⟩, fun h0 => ⟨?_, fun _ => ⟨rfl, k _⟩, fun _ => ⟨rfl, k _⟩⟩⟩)
  rcases hr with h1 | ⟨j, ej, hj⟩
  · exact absurd h1 h0
  · rw [ej]; exact iN_in hj (by omega)
theorem x_ttRemove {post : gS → Prop} {p1 : Int32} (hI : IX n K u) (k : ∀ u', IX n K u' → post u') : wpX3_removeAt K post u p1 := by
  refine ⟨fun _ => k _ hI, fun h0 => ⟨fun h1 => ?_, fun _ => k _ hI⟩⟩
  obtain ⟨c, hc, e, hl⟩ := id hI.2.2.1
  rw [e] at h1
  obtain ⟨i, ei, hi⟩ := iN_of2 (n := c) (Int32.not_lt.mp h0) h1 (by omega)
  have key : ∀ d i v, i + d + 1 = c → IX n K v → sI v 6 = iN c → (∀ i, i < c → ∃ q, q ∈ K.2.2.1 ∧ sQ v 2 i = some q) → wpX3_removeAt_15 K post (d + 1) p1 (iN i) v := by
    intro d
    induction d with
    | zero =>
      intro i v hi hv ev hlv
      refine ⟨fun _ u5 e5 => ?_, fun h => ?_⟩
      · rw [ev, iN_pred (by omega)] at e5
        subst e5
        exact k _ (IX_T hv (by omega) (fun j hj => hlv j (by omega)))
      · rw [ev, iN_pred (by omega)] at h
        have := x_c0 (by omega) (by omega) h; omega
    | succ d ih =>
      intro i v hi hv ev hlv
      have hs : vp_in (iN i + 1) 10 := by rw [iN_succ]; exact iN_in (by omega) (by omega)
      have h0 : vp_in (iN i) 10 := iN_in (by omega) (by omega)
      refine ⟨fun h => ?_, fun h => ⟨hs, fun r6 e6 => ?_⟩⟩
      · rw [ev, iN_pred (by omega)] at h
        have := (iN_le (by omega) (by omega)).mp h; omega
      · rw [iN_succ, iN_nat (by omega)] at e6
        obtain ⟨w', p1', p2'⟩ := hlv (i + 1) (by omega)
        rw [p2'] at e6
        refine ⟨fun y9 h9 => by rw [e6] at h9; cases h9; exact p1', h0, fun u7 e7 => ⟨hs, h0, fun u8 e8 => ⟨hs, h0, fun u9 e9 x10 e10 => ?_⟩⟩⟩
        rw [e6, iN_nat (by omega)] at e7
        subst e7 e8 e9
        rw [e10, iN_succ]
        have hv' := IX_Q2 (j := i) hv p1'
        have hv2 := IX_B1 (i := (iN i).toNatClampNeg) hv' (hv'.2.2.2.2.2.2.2.2.2.1 (iN (i + 1)).toNatClampNeg)
        refine ih (i + 1) _ (by omega) (IX_B2 hv2 (hv2.2.2.2.2.2.2.2.2.2.2.1 _)) ev (fun j hj => ?_)
        show ∃ q, q ∈ K.2.2.1 ∧ sQ (tQ v 2 i (some w')) 2 j = some q
        by_cases hij : j = i
        · exact ⟨w', p1', by rw [sQ_tQ, if_pos rfl, if_pos hij]⟩
        · obtain ⟨q', a1, a2⟩ := hlv j hj
          exact ⟨q', a1, by rw [sQ_tQ, if_pos rfl, if_neg hij]; exact a2⟩
  rw [ei]
  have := key (c - 1 - i) i u (by omega) hI e hl
  rw [ei] at this
  exact ⟨_, this⟩
theorem x_find {post : Option Nat → gS → Prop} {p1 : Int32} (hK : KI K) (k : ∀ r, (∀ q, r = some q → q ∈ K.2.2.1) → post r u) : wpX0_find K post u p1 := by
  refine ⟨fun _ => k _ (fun q h => by cases h), fun h0 => ⟨fun _ => k _ (fun q h => by cases h), fun h1 => ?_⟩⟩
  obtain ⟨c, hc, e, hl⟩ := hK
  rw [e] at h1
  obtain ⟨i, ei, hi⟩ := iN_of2 (n := c) (Int32.not_lt.mp h0) (Int32.not_le.mp h1) (by omega)
  refine ⟨by rw [ei]; exact iN_in (by omega) (by omega), fun r3 e3 => k _ (fun q h => ?_)⟩
  rw [ei, iN_nat (by omega)] at e3
  obtain ⟨q', a1, a2⟩ := hl i hi
  have : q' = q := Option.some.inj (by rw [← a2, ← e3]; exact h)
  exact this ▸ a1
theorem x_place {post : Int32 → gS → Prop} {p1 : Nat} (hI : IX n K u) (k : ∀ r, post r u) : wpX0_placeOf K post u p1 :=
  ⟨fun _ => ⟨fun _ => k _, fun _ => x_placeOf hI k⟩, fun _ => x_linePlace hI k⟩
theorem x_sum {post : gS → Prop} {p1 : Nat} (hK : KI K) (hI : IX n K u) (k : ∀ u', IX n K u' → post u') : wpX0_sum K post u p1 := by
  refine x_find hK (fun r1 h1 => x_find hK (fun r3 h3 => ⟨fun _ => x_fail hI k, fun y5 e5 => ⟨fun _ => x_fail hI k, fun y8 e8 => ⟨h1 y5 e5, fun _ => x_fail hI k, fun _ => ⟨h3 y8 e8, fun _ => x_succeed hI k, fun _ => x_fail hI k⟩⟩⟩⟩))
theorem x_endIf {post : gS → Prop} (hI : IX n K u) (k : ∀ u', IX n K u' → post u') : wpX0_endIfSettled K post u := by
  refine ⟨fun _ => k _ hI, fun _ => ⟨fun _ => k _ hI, fun _ => x_busy hI (fun r => ⟨fun _ => k _ hI, fun _ u6 e6 u7 e7 u8 e8 => ?_⟩)⟩⟩
  subst e6 e7 e8
  exact k _ (IX_T (c := 0) (IX_I2 (c := 0) (by omega) (IX_I0 hI)) (by omega) (fun i hi => by omega))
theorem x_free {post : gS → Prop} {p1 : Option Nat} (hn : n ≤ 1000000000) (hI : IX n K u) (hp : ∀ w, p1 = some w → w ∈ K.2.1) (k : ∀ u', IX n K u' → post u') : wpX0_freeWorker K post u p1 := by
  refine ⟨fun _ => k _ hI, fun y1 e1 => x_takeFirst hn hI hI.2.2.2.2.2.2.1 (fun r2 u3 h2 h3 => ⟨fun _ => ⟨hp y1 e1, x_rest h3 h3.2.2.2.2.2.2.1 (fun u' h _ => k u' h)⟩, fun y4 e4 => ⟨hp y1 e1, h2 y4 e4, x_begin h3 (h2 y4 e4) (fun u' h _ => k u' h)⟩⟩)⟩
theorem x_replace {post : gS → Prop} {p1 : Int32} (hn : n ≤ 1000000000) (hI : IX n K u) (k : ∀ u', IX n K u' → post u') : wpX0_replaceWorker K post u p1 :=
  x_dismiss hI (fun u2 h2 => x_takeFirst hn h2 h2.2.2.2.2.2.2.1 (fun r3 u4 h3 h4 => ⟨fun _ => k _ h4, fun y5 e5 => ⟨h3 y5 e5, x_hire h4 (h3 y5 e5) k⟩⟩))
theorem x_longIdle {post : gS → Prop} (hn : n ≤ 1000000000) (hI : IX n K u) (k : ∀ u', IX n K u' → post u') : wpX0_dismissLongIdle K post u := by
  intro x1 e1
  obtain ⟨c, hc, e⟩ := id hI.1
  rw [e] at e1
  have key : ∀ d i l2 v, i + d = c → IX n K v → wpX0_dismissLongIdle_12 K post (d + 1) x1 l2 (iN i) v := by
    intro d
    induction d with
    | zero =>
      intro i l2 v hi hv
      refine ⟨fun _ => k _ hv, fun h => ?_⟩
      rw [e1] at h
      have := x_c0 (by omega) (by omega) h; omega
    | succ d ih =>
      intro i l2 v hi hv
      refine ⟨fun _ => k _ hv, fun _ => ⟨fun _ => k _ hv, fun _ => x_at hv (fun r4 h4 => ⟨fun _ x7 e7 x8 e8 => ?_, fun y6 e6 => ⟨(h4 y6 e6).1, fun r10 e10 => ⟨fun _ => ⟨dN_n64 (dB_sub hv.2.2.2.2.2.2.1 (hv.2.2.2.2.2.2.2.2.2.2.2 y6) (by omega)).1, fun _ x13 e13 x14 e14 => ?_, fun _ => x_dismiss hv (fun u16 h16 x17 e17 => ?_)⟩, fun y11 e11 x18 e18 x19 e19 => ?_⟩⟩⟩)⟩⟩
      · rw [e8, iN_succ]; exact ih (i + 1) _ v (by omega) hv
      · rw [e14, iN_succ]; exact ih (i + 1) _ v (by omega) hv
      · rw [e17, iN_succ]; exact ih (i + 1) _ u16 (by omega) h16
      · rw [e19, iN_succ]; exact ih (i + 1) _ v (by omega) hv
  exact ⟨c + 1, key c 0 0 u (by omega) hI⟩
theorem x_checkRange {post : gS → Prop} {px : String → gS → Prop} {p1 p2 p3 : Int32} (k : p2 ≤ p1 → p1 ≤ p3 → post u) (kx : px "java/lang/IllegalArgumentException" u) : wpX0_checkRange K post px u p1 p2 p3 :=
  ⟨fun _ => kx, fun h => ⟨fun h2 => k (Int32.not_lt.mp h) h2, fun _ => kx⟩⟩
theorem x_checkSpan {post : gS → Prop} {px : String → gS → Prop} {p1 : UInt64} {p2 : Int32} {m : Int} (hm : dB m (FP.i2d p2)) (k : dB m p1 → post u) (kx : px "java/lang/IllegalArgumentException" u) : wpX0_checkSpan K post px u p1 p2 :=
  ⟨fun _ => kx, fun h => ⟨fun h2 => k (dB_between (cv_l h) (cv_g h2) (dB_zero (dB_nn hm)) hm), fun _ => kx⟩⟩
theorem x_known {post : Option Nat → gS → Prop} {px : String → gS → Prop} {p1 : Int32} (hK : KI K) (k : ∀ y, y ∈ K.2.2.1 → post (some y) u) (kx : px "java/lang/IllegalArgumentException" u) (ky : px "java/util/NoSuchElementException" u) : wpX0_known K post px u p1 :=
  x_checkRange (fun _ _ => x_find hK (fun r3 h3 => ⟨fun _ => ky, fun y5 e5 => k y5 (h3 y5 e5)⟩)) kx
/-- what stands behind a job that was performed -/
theorem x_afterPerform {post : gS → Prop} {adm : KX → (gS → Prop) → gS → Nat → Int32 → Prop} {p1 : Nat} {p2 : Int32} (hadm : ∀ (v : gS) (y : Nat) (post : gS → Prop), IX n K v → y ∈ K.2.2.1 → (∀ u', IX n K u' → post u') → adm K post v y (p2 + 1)) (k : ∀ u', IX n K u' → post u') :
    ∀ u3, IX n K u3 → (∀ u4 : gS, u4 = tI u3 1 ((sI u3 1) + 1) → (∀ r5 : Option Nat, r5 = sQ u4 3 p1 → (((¬ (sA u4 0 p1) = 3 → (post u4)) ∧ ((sA u4 0 p1) = 3 → (((r5 = none → (post u4)) ∧ (∀ y7 : Nat, r5 = some y7 → (y7 ∈ K.2.2.1 ∧ (((¬ (sA u4 0 y7) = 0 → (post u4)) ∧ ((sA u4 0 y7) = 0 → (adm K (fun (u11 : gS) => post u11) u4 y7 (p2 + 1)))))))))))))) := by
  intro u3 h3 u4 e4 r5 e5
  subst e4
  have h4 : IX n K (tI u3 1 (sI u3 1 + 1)) := IX_I1 h3
  refine ⟨fun _ => k _ h4, fun _ => ⟨fun _ => k _ h4, fun y7 e7 => ?_⟩⟩
  have hy : y7 ∈ K.2.2.1 := h4.2.2.2.2.1 p1 y7 (by rw [← e5]; exact e7)
  exact ⟨hy, fun _ => k _ h4, fun _ => hadm _ _ _ h4 hy k⟩
theorem x_fork {post : gS → Prop} {adm : KX → (gS → Prop) → gS → Nat → Int32 → Prop} {p1 : Nat} {p2 : Int32} (hK : KI K) (hI : IX n K u) (hadm : ∀ (v : gS) (y : Nat) (post : gS → Prop), IX n K v → y ∈ K.2.2.1 → (∀ u', IX n K u' → post u') → adm K post v y (p2 + 1)) (k : ∀ u', IX n K u' → post u') : wpX0_fork K adm post u p1 p2 :=
  x_find hK (fun r1 h1 => ⟨fun _ => x_fail hI k, fun y3 e3 => ⟨h1 y3 e3, fun _ => hadm _ _ _ hI (h1 y3 e3) (fun u9 h9 => ⟨fun _ => x_succeed h9 k, fun _ => x_fail h9 k⟩), fun _ => x_fail hI k⟩⟩)
theorem x_perform {post : gS → Prop} {adm : KX → (gS → Prop) → gS → Nat → Int32 → Prop} {p1 : Nat} {p2 : Int32} (hK : KI K) (hI : IX n K u) (hadm : ∀ (v : gS) (y : Nat) (post : gS → Prop), IX n K v → y ∈ K.2.2.1 → (∀ u', IX n K u' → post u') → adm K post v y (p2 + 1)) (k : ∀ u', IX n K u' → post u') : wpX0_performAndEnd K adm post u p1 p2 := by
  have ha := x_afterPerform (p1 := p1) hadm k
  exact ⟨fun _ => x_succeed hI ha, fun _ => ⟨fun _ => x_divide hI ha, fun _ => ⟨fun _ => x_pick hI ha, fun _ => ⟨fun _ => x_sum hK hI ha, fun _ => ⟨fun _ => x_fork hK hI hadm ha, fun _ => x_fail hI ha⟩⟩⟩⟩⟩
theorem x_turnAway {post : gS → Prop} {adm : KX → (gS → Prop) → gS → Nat → Int32 → Prop} {p1 : Nat} {p2 : Int32} (hK : KI K) (hI : IX n K u) (hp : p1 ∈ K.2.2.1) (hadm : ∀ (v : gS) (y : Nat) (post : gS → Prop), IX n K v → y ∈ K.2.2.1 → (∀ u', IX n K u' → post u') → adm K post v y (p2 + 1)) (k : ∀ u', IX n K u' → post u') : wpX0_turnAway K adm post u p1 p2 := by
  refine ⟨fun _ u2 e2 => ?_, fun _ => ⟨fun _ u4 e4 => ?_, fun _ => ⟨fun _ => x_lineRemove hI (fun r6 u7 h6 h7 => ⟨fun _ u9 e9 => ?_, fun y8 e8 => ⟨h6 y8 e8, fun u11 e11 => ?_⟩⟩), fun _ u14 e14 => ?_⟩⟩⟩
  · subst e2; exact k _ (IX_A hI)
  · subst e4; exact k _ (IX_A hI)
  · subst e9; exact k _ (IX_A h7)
  · subst e11; exact x_add (IX_A h7) hp h7.2.2.2.2.2.2.1 k
  · subst e14; exact x_perform hK (IX_A hI) hadm k
theorem x_admit (hK : KI K) : ∀ (f d : Nat), 26 ≤ f + d → d ≤ 25 → ∀ (v : gS) (y : Nat) (post : gS → Prop), IX n K v → y ∈ K.2.2.1 → (∀ u', IX n K u' → post u') → wpX0_admit f K post v y (iN d) := by
  intro f
  induction f with
  | zero => intro d h1 h2; omega
  | succ f ih =>
    intro d h1 h2 v y post hv hy k
    refine x_firstIdle hv (fun r1 hr => ⟨fun _ u4 e4 => ?_, fun _ => ⟨fun h24 => ⟨fun _ => ⟨fun _ => ⟨fun _ => ⟨fun _ => ?_, fun _ => x_hire hv hy k⟩, fun _ => x_add hv hy hv.2.2.2.2.2.2.1 k⟩, fun y7 e7 => ⟨hr y7 e7, x_begin hv hy (fun u' h _ => k u' h)⟩⟩, fun _ => x_hire hv hy k⟩, fun _ u21 e21 => ?_⟩⟩)
    · subst e4; exact k _ (IX_A hv)
    · have hd : d ≤ 24 := (iN_le (a := d) (b := 24) (by omega) (by omega)).mp h24
      refine x_turnAway hK hv hy (fun v' y' post' hv' hy' k' => ?_) k
      rw [iN_succ]
      exact ih (d + 1) (by omega) (by omega) v' y' post' hv' hy' k'
    · subst e21; exact k _ (IX_A hv)
theorem x_admit0 {post : gS → Prop} {y : Nat} (hK : KI K) (hI : IX n K u) (hy : y ∈ K.2.2.1) (k : ∀ u', IX n K u' → post u') : wpX0_admit 26 K post u y 0 := x_admit hK 26 0 (by omega) (by omega) u y post hI hy k
theorem x_stays {post : Int32 → gS → Prop} {p1 : Int32} (hn : n ≤ 1000000000) (hK : KI K) (hI : IX n K u) (k : ∀ r u', IX n K u' → post r u') : wpX0_staysAfterTurn K post u p1 := by
  refine x_at hI (fun r1 h1 => ⟨fun _ => ⟨rfl, k _ _ hI⟩, fun y3 e3 => ⟨(h1 y3 e3).1, fun r5 e5 => ⟨fun _ => ⟨rfl, k _ _ hI⟩, fun y6 e6 u7 e7 => ?_⟩⟩⟩)
  have h7 : IX n K u7 := by rw [e7]; exact IX_A hI
  refine ⟨fun _ r9 e9 => ⟨y6, ?_, hI.2.2.2.2.2.1 y3 y6 (by rw [← e5]; exact e6), ?_⟩, fun _ => ⟨rfl, k _ _ h7⟩⟩
  · rw [e9, e7]; show sQ u 4 y3 = some y6; rw [← e5]; exact e6
  · refine x_perform hK h7 (fun v y post hv hy k => x_admit hK 26 1 (by omega) (by omega) v y post hv hy k) (fun u13 h13 => ⟨fun _ => ?_, fun _ => ⟨fun _ => ?_, fun _ => x_replace hn h13 (fun u' h => ⟨rfl, k _ _ h⟩)⟩⟩)
    · exact x_free hn h13 (fun w e => by cases e; exact (h1 y3 e3).1) (fun u' h => ⟨rfl, k _ _ h⟩)
    · exact x_free hn h13 (fun w e => by cases e; exact (h1 y3 e3).1) (fun u' h => ⟨rfl, k _ _ h⟩)
theorem x_runStep {post : gS → Prop} (hn : n ≤ 1000000000) (hK : KI K) (hI : IX n K u) (k : ∀ u', IX n K u' → post u') : wpX0_runStep K post u := by
  intro x1 e1
  obtain ⟨c, hc, e⟩ := id hI.1
  rw [e] at e1
  have key : ∀ d i l2 v, i + d = c → IX n K v → wpX0_runStep_12 K post (d + 1) x1 l2 (iN i) v := by
    intro d
    induction d with
    | zero =>
      intro i l2 v hi hv
      refine ⟨fun _ => k _ hv, fun h => ?_⟩
      rw [e1] at h
      have := x_c0 (by omega) (by omega) h; omega
    | succ d ih =>
      intro i l2 v hi hv
      refine ⟨fun _ => k _ hv, fun _ => x_stays hn hK hv (fun r3 u4 h4 => ⟨fun _ x6 e6 => ?_, fun _ x7 e7 x8 e8 => ?_⟩)⟩
      · rw [e6, iN_succ]; exact ih (i + 1) _ u4 (by omega) h4
      · rw [e8, iN_succ]; exact ih (i + 1) _ u4 (by omega) h4
  exact ⟨c + 1, key c 0 0 u (by omega) hI⟩
theorem x_fireEnd {post : gS → Prop} {y : Nat} {x4 x5 : UInt64} (hn : n ≤ 1000000000) (hy : y ∈ K.2.2.1) (h4 : dB n x4) (h5 : dB 1000 x5) (k : ∀ u', IX (n + 1000) K u' → post u') :
    ∀ v, IX n K v → (((Op.cmpValue (FP.dcmp x5 FP.dconst0) .l) ≤ 0 → (post v)) ∧ (¬ (Op.cmpValue (FP.dcmp x5 FP.dconst0) .l) ≤ 0 → (((¬ (sI v 0) = 0 → (post v)) ∧ ((sI v 0) = 0 → (vf_n64 (FP.dadd x4 x5) ∧ (wpX3_put K (fun (u17 : gS) => post u17) v y (FP.dadd x4 x5) x5))))))) := by
  intro v hv
  have hv' : IX (n + 1000) K v := IX_mono hv (by omega)
  have ha : dB (n + 1000) (FP.dadd x4 x5) := dB_add h4 h5 (by omega)
  exact ⟨fun _ => k _ hv', fun _ => ⟨fun _ => k _ hv', fun _ => ⟨dN_n64 ha.1, x_put hv' hy ha h5 k⟩⟩⟩
theorem x_fireMid {post : gS → Prop} {y : Nat} {x4 x5 : UInt64} (hK : KI K) (hn : n ≤ 1000000000) (hy : y ∈ K.2.2.1) (h4 : dB n x4) (h5 : dB 1000 x5) (k : ∀ u', IX (n + 1000) K u' → post u') :
    ∀ v, IX n K v → (((¬ (sA v 0 y) = 0 → ((((Op.cmpValue (FP.dcmp x5 FP.dconst0) .l) ≤ 0 → (post v)) ∧ (¬ (Op.cmpValue (FP.dcmp x5 FP.dconst0) .l) ≤ 0 → (((¬ (sI v 0) = 0 → (post v)) ∧ ((sI v 0) = 0 → (vf_n64 (FP.dadd x4 x5) ∧ (wpX3_put K (fun (u17 : gS) => post u17) v y (FP.dadd x4 x5) x5))))))))) ∧ ((sA v 0 y) = 0 → (wpX0_admit 26 K (fun (u19 : gS) => (((Op.cmpValue (FP.dcmp x5 FP.dconst0) .l) ≤ 0 → (post u19)) ∧ (¬ (Op.cmpValue (FP.dcmp x5 FP.dconst0) .l) ≤ 0 → (((¬ (sI u19 0) = 0 → (post u19)) ∧ ((sI u19 0) = 0 → (vf_n64 (FP.dadd x4 x5) ∧ (wpX3_put K (fun (u23 : gS) => post u23) u19 y (FP.dadd x4 x5) x5)))))))) v y 0)))) := by
  intro v hv
  have he := x_fireEnd hn hy h4 h5 k
  exact ⟨fun _ => he v hv, fun _ => x_admit0 hK hv hy he⟩
theorem x_fire {post : gS → Prop} {p1 : Int32} (hK : KI K) (hn : n ≤ 1000000000) (hI : IX n K u) (k : ∀ u', IX (n + 1000) K u' → post u') : wpX0_fire K post u p1 := by
  refine ⟨fun _ => k _ (IX_mono hI (by omega)), fun h0 => ⟨fun h1 => ?_, fun _ => k _ (IX_mono hI (by omega))⟩⟩
  obtain ⟨c, hc, e, hl⟩ := id hI.2.2.1
  rw [e] at h1
  obtain ⟨i, ei, hi⟩ := iN_of2 (n := c) (Int32.not_lt.mp h0) h1 (by omega)
  have hin : vp_in p1 10 := by rw [ei]; exact iN_in (by omega) (by omega)
  refine ⟨hin, fun r3 e3 => ⟨hin, fun x4 e4 => ⟨hin, fun x5 e5 => ?_⟩⟩⟩
  rw [ei, iN_nat (by omega)] at e3
  obtain ⟨q, hq, q2⟩ := hl i hi
  rw [q2] at e3
  have h4 : dB n x4 := by rw [e4]; exact hI.2.2.2.2.2.2.2.2.2.1 _
  have h5 : dB 1000 x5 := by rw [e5]; exact hI.2.2.2.2.2.2.2.2.2.2.1 _
  have hm := x_fireMid hK hn hq h4 h5 k
  refine x_ttRemove hI (fun u7 h7 => ⟨fun _ => ⟨q, e3, hq, ?_⟩, fun _ u48 e48 => ⟨q, e3, hq, ?_⟩⟩)
  · exact ⟨fun _ u12 e12 => hm u12 (by rw [e12]; exact IX_A h7), fun _ => ⟨fun _ => hm u7 h7, fun _ u36 e36 => hm u36 (by rw [e36]; exact IX_A h7)⟩⟩
  · have h48 : IX n K u48 := by rw [e48]; exact IX_D0 h7 h4
    exact ⟨fun _ u12 e12 => hm u12 (by rw [e12]; exact IX_A h48), fun _ => ⟨fun _ => hm u48 h48, fun _ u36 e36 => hm u36 (by rw [e36]; exact IX_A h48)⟩⟩
end XM
