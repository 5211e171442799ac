/-! class and reference: the end of a call; submit -/
def Bz (v : gS) : Prop := ∃ w k, w ≤ 5 ∧ sI v 3 = iN w ∧ k < w ∧ ¬ sA v 9 k < 0
/-- it isn't settled: where it is CLOSING, somebody is QUEUED or busy -/
def vE (v : gS) : Prop := sI v 2 = 1 → sI v 6 ≠ 0 ∨ Bz v
/-- between two calls -/
def JR (n : Int) (B : Nat) (KMv : KM) (K : KX) (j : Nat) (u v : gS) : Prop := ∃ w q e, RR n B KMv K j 0 w q e 24 24 60 u v ∧ vE v
/-- the two answers: alike in what is thrown and in what is answered -/
def JA (f : Nat → Int64) (X : (Int32 → gS × (Nat → Int64) → Prop) → Prop) (M : (Int32 → gS → Prop) → Prop) (Rel : gS → gS → Prop) : Prop :=
  ∃ (c r : Int32) (u' v' : gS), (∀ post, post c (u', if c = 0 then vp_updL f (0 : Int32).toNatClampNeg r.toInt64 else f) → X post) ∧ (∀ post, post r v' → M post) ∧ sI v' 0 = c ∧ Rel u' v'
section NOW
variable {n : Int} {B : Nat} {KMv : KM} {K : KX} {j t w q e x x0 g T y : Nat} {u v : gS} {f : Nat → Int64}
theorem JA_ok {X : (Int32 → gS × (Nat → Int64) → Prop) → Prop} {M : (Int32 → gS → Prop) → Prop} {Rel : gS → gS → Prop} {r : Int32} {u' v' : gS} (hx : ∀ post : Int32 → gS × (Nat → Int64) → Prop, post 0 (u', vp_updL f (0 : Int32).toNatClampNeg r.toInt64) → X post) (hm : ∀ post : Int32 → gS → Prop, post r v' → M post) (h0 : sI v' 0 = 0) (hR : Rel u' v') : JA f X M Rel :=
  ⟨0, r, u', v', fun post k => hx post (by rw [if_pos rfl] at k; exact k), hm, h0, hR⟩
theorem JA_no {X : (Int32 → gS × (Nat → Int64) → Prop) → Prop} {M : (Int32 → gS → Prop) → Prop} {Rel : gS → gS → Prop} {c r : Int32} {u' v' : gS} (hc : c ≠ 0) (hx : ∀ post : Int32 → gS × (Nat → Int64) → Prop, post c (u', f) → X post) (hm : ∀ post : Int32 → gS → Prop, post r v' → M post) (h0 : sI v' 0 = c) (hR : Rel u' v') : JA f X M Rel :=
  ⟨c, r, u', v', fun post k => hx post (by rw [if_neg hc] at k; exact k), hm, h0, hR⟩
theorem RR_i0 {s : Int32} (h : RR n B KMv K j t w q e x x0 g u v) : RR n B KMv K j t w q e x x0 g u (tI v 0 s) := by
  obtain ⟨rk, rs, rz, r0, r1, r2, r3, rp, rw_, rl, rt, vq, vb, vn, vz, ip⟩ := h
  exact ⟨rk, rs, rz, r0, r1, r2, r3, rp, rw_, rl, rt, vq, vb, vn, vz, IP_i0 ip⟩
theorem vE_i0 {s : Int32} (h : vE v) : vE (tI v 0 s) := h
theorem vE_sm {v v' : gS} (h : vE v) (e2 : sI v' 2 = sI v 2) (hm : sI v 2 ≠ 0 → Sm v v') : vE v' := by
  intro h1
  have h1' : sI v 2 = 1 := e2.symm.trans h1
  obtain ⟨e9, e3, e6⟩ := hm (by rw [h1']; decide)
  rcases h h1' with g | ⟨w, k, a, b, c, d⟩
  · exact Or.inl (by rw [e6]; exact g)
  · exact Or.inr ⟨w, k, a, e3.trans b, c, by rw [e9]; exact d⟩
theorem f_fail {post : Int32 → gS → Prop} {s : Int32} (k : post 0 (tI v 0 s)) : wpM6_fail KMv post v s := fun u1 e1 => by subst e1; exact k
theorem f_end {post : Int32 → gS → Prop} {r : Int32} (hw : w ≤ 5) (e3 : sI v 3 = iN w) (h : vE v) (k : post r v) : wpM6_end KMv post v r := by
  refine ⟨fun _ => k, fun h1 => ⟨fun _ => k, fun h6 => m_countBusy hw e3 (fun r' hr => ⟨fun _ => k, fun h0 => ?_⟩)⟩⟩
  exfalso
  rcases h h1 with g | ⟨w', k', a, b, c, d⟩
  · exact g h6
  · have : w = w' := (iN_inj (by omega) (by omega)).mp (e3.symm.trans b)
    exact d (hr h0 k' (by omega))
/-- as many are busy -/
theorem j_cnt (h : RR n B KMv K j t w q e x x0 g u v) : cntB (fun i => (sQ u 4 (aW u i)).isSome) w = cntB (fun i => decide (¬ sA v 9 i < 0)) w := by
  refine cntB_congr w (fun i hi => ?_)
  have h1 := (h.2.2.2.2.2.2.2.2.1 i hi).1
  show (sQ u 4 (aW u i)).isSome = decide (¬ sA v 9 i < 0)
  rw [h1]
  unfold oJ
  by_cases h9 : sA v 9 i < 0
  · rw [if_pos h9, decide_eq_false (fun z => z h9)]; rfl
  · rw [if_neg h9, decide_eq_true h9]; rfl
theorem j_end (h : RR n B KMv K j 0 w q e 24 24 60 u v) : ∃ u' v' w' e', (∀ post : gS → Prop, post u' → wpX0_endIfSettled K post u) ∧ (∀ (r : Int32) (post : Int32 → gS → Prop), post r v' → wpM6_end KMv post v r) ∧ RR n B KMv K j 0 w' q e' 24 24 60 u' v' ∧ vE v' ∧ sI v' 0 = sI v 0 ∧ sI u' 1 = sI u 1 := by
  have ip := RR_ip h
  have hw := ip.1.2.1
  have hq4 := ip.1.2.2.1
  have e3 := ip.2.1.2.1
  have e6 := ip.2.1.2.2.1
  have e2u : sI u 2 = iN w := h.2.2.1.1
  have e4u : sI u 4 = iN q := h.2.2.1.2.1
  have ph : sI u 0 = sI v 2 := h.2.1.1
  have rp := h.2.2.2.2.2.2.2.1
  have cn := j_cnt h
  have cl := cntB_le (P := fun i => decide (¬ sA v 9 i < 0)) w
  have hbx : ∀ post : Int32 → gS → Prop, post (iN (cntB (fun i => decide (¬ sA v 9 i < 0)) w)) u → wpX1_busy K post u := fun post k => e_busy hw e2u (fun i hi => rp.1 i (by omega)) (by rw [cn]; exact k)
  have hbm : ∀ post : Int32 → gS → Prop, post (iN (cntB (fun i => decide (¬ sA v 9 i < 0)) w)) v → wpM6_countBusy KMv post v := fun post k => f_countBusy hw e3 k
  have q0 : sI v 6 = 0 ↔ q = 0 := by
    rw [e6]
    exact iN_inj (b := 0) (by omega) (by omega)
  by_cases c1 : sI v 2 = 1
  case neg =>
    exact ⟨u, v, w, e, fun post k => ⟨fun _ => k, fun z => absurd (ph.symm.trans z) c1⟩, fun r post k => ⟨fun _ => k, fun z => absurd z c1⟩, h, fun z => absurd z c1, rfl, rfl⟩
  by_cases c2 : q = 0
  case neg =>
    have c2' : ¬ sI v 6 = 0 := fun z => c2 (q0.mp z)
    have c2u : ¬ sI u 4 = 0 := fun z => c2' (e6.trans (e4u.symm.trans z))
    exact ⟨u, v, w, e, fun post k => ⟨fun _ => k, fun _ => ⟨fun _ => k, fun z => absurd z c2u⟩⟩, fun r post k => ⟨fun _ => k, fun _ => ⟨fun _ => k, fun z => absurd z c2'⟩⟩, h, fun _ => Or.inl c2', rfl, rfl⟩
  by_cases c3 : cntB (fun i => decide (¬ sA v 9 i < 0)) w = 0
  case neg =>
    have c3' : ¬ iN (cntB (fun i => decide (¬ sA v 9 i < 0)) w) = 0 := fun z => c3 ((iN_inj (b := 0) (by omega) (by omega)).mp z)
    refine ⟨u, v, w, e, fun post k => ⟨fun _ => k, fun _ => ⟨fun _ => k, fun _ => hbx _ ⟨fun _ => k, fun z => absurd z c3'⟩⟩⟩, fun r post k => ⟨fun _ => k, fun _ => ⟨fun _ => k, fun _ => hbm _ ⟨fun _ => k, fun z => absurd z c3'⟩⟩⟩, h, fun _ => Or.inr ?_, rfl, rfl⟩
    apply Classical.byContradiction
    intro hno
    have hall : ∀ k, k < w → sA v 9 k < 0 := fun k hk => Classical.byContradiction (fun hn => hno ⟨w, k, hw, e3, hk, hn⟩)
    have : cntB (fun i => decide (¬ sA v 9 i < 0)) w = cntB (fun _ => false) w := cntB_congr w (fun k hk => decide_eq_false (fun z => z (hall k hk)))
    have z0 : ∀ m, cntB (fun _ => false) m = 0 := fun m => by
      induction m with
      | zero => rfl
      | succ m ih => unfold cntB; rw [ih]; rfl
    rw [z0] at this
    exact c3 this
  have hall : ∀ k, k < w → sA v 9 k < 0 := fun k hk => by
    have := of_decide_eq_false (cntB_0 w c3 k hk)
    exact Classical.byContradiction this
  have n0 : iN (cntB (fun i => decide (¬ sA v 9 i < 0)) w) = 0 := by rw [c3]; rfl
  have c2' : sI v 6 = 0 := q0.mpr c2
  have c2u : sI u 4 = 0 := (e4u.trans e6.symm).trans c2'
  refine ⟨tI (tI (tI u 0 2) 2 0) 6 0, tI (tI (tI v 2 2) 3 0) 7 0, 0, 0, fun post k => ⟨fun z => absurd (ph.trans c1) z, fun _ => ⟨fun z => absurd c2u z, fun _ => hbx _ ⟨fun z => absurd n0 z, fun _ u6 e6' u7 e7 u8 e8 => ?_⟩⟩⟩, fun r post k => ⟨fun z => absurd c1 z, fun _ => ⟨fun z => absurd c2' z, fun _ => hbm _ ⟨fun z => absurd n0 z, fun _ u6 e6' u7 e7 u8 e8 => ?_⟩⟩⟩, ?_, fun z => absurd (show (2 : Int32) = 1 from z) (by decide), rfl, rfl⟩
  · subst e6' e7 e8; exact k
  · subst e6' e7 e8; exact k
  · obtain ⟨rk, rs, rz, r0, r1, r2, r3, rp, rw_, rl, rt, vq, vb, ⟨c, e4, hc, h8, hs⟩, vz, ip⟩ := h
    obtain ⟨bb, ⟨b1, b3, b6, b7, b10⟩, c', d, f', gx, k1, k2, k0, kt, kc, kd⟩ := ip
    have hj := bb.1
    refine ⟨rk, ⟨rfl, rs.2⟩, ⟨rfl, rz.2.1, rfl⟩, r0, r1, r2, r3, rp, fun i hi => by omega, rl, fun i hi => by omega, vq, ⟨fun k i hk => by omega, fun a b ha => by omega⟩, ⟨c, e4, hc, fun i hi => by omega, fun a b hab hb => by omega⟩, vz, ⟨bb.1, by omega, bb.2.2.1, by omega⟩, ⟨b1, rfl, b6, rfl, b10⟩, fun i hi => by omega, d, fun i hi => by omega, gx, k1, fun i hi e2 => ?_, k0, kt, kc, kd⟩
    rcases k2 i hi e2 with ⟨k', hk', ek'⟩ | ⟨f'', hf, _⟩
    · have := hall k' hk'
      rw [ek'] at this
      exact absurd this (iN_nneg (by omega))
    · omega
/-- a NEW job is submitted -/
theorem j_now (hK : KMI KMv) (h : RR n B KMv K j 0 w q e 24 24 60 u v) (hBm : B < 2147483647) (hy : y < j) (h0 : sA v 4 y = 0) : ∃ u' v' w' q', (∀ post : gS → Prop, post u' → wpX0_admit 26 K post u (aA K y) 0) ∧ (∀ post : gS → Prop, post v' → wpM6_submitNow KMv post v (iN y)) ∧ RR n B KMv K j 0 w' q' e 24 24 60 u' v' ∧ Nk y v v' ∧ (sI v 2 ≠ 0 → Sm v v') ∧ sA v' 4 y ≠ 0 := by
  have ip := RR_ip h
  have hj := ip.1.1
  have hx0 : 24 < j → sA v 4 24 ≠ 0 := fun z => by omega
  rcases j_place (d := 0) hK h hBm hy h0 hx0 (by omega) with ⟨u', v', w', q', hx, hm, hR, hpl, hst, hne, _, hNq, hSm, hqw⟩ | ⟨hp0, hx, hm⟩
  · exact ⟨u', v', w', q', fun post k => hx 25 post k, fun post k => hm _ ⟨fun _ => k, fun z => absurd rfl z⟩, hR, Nk_Nq hNq h0, hSm, hne⟩
  · have hP := RR_push h hy h0 hx0
    have kc : 0 + 1 + cN (sA (mPush v 0 y) 4) j ≤ 25 := (RR_ip hP).2.2.2.2.2.2.2.2.2.2.1
    have hqn : Nk y v (mPush v 0 y) := Nk_Nq (z := y) (Nq_same (fun i hi => by rw [mPush_4, tA_ne hi]) rfl (fun _ => rfl) (Sc0_r ip.1.2.1 ip.2.1.2.1 ⟨rfl, rfl, rfl, rfl, fun _ => rfl⟩)) h0
    obtain ⟨u', v', w', q', gx, gm, gR, gk, g34, gN, gQ⟩ := j_perform hK hBm (cN (sA (mPush v 0 y) 4) j) 25 0 0 w q y _ _ hP (by show sA (tA v 13 0 (iN y)) 13 0 = iN y; rw [tA_eq]) (by show sA (tA (tA v 13 0 (iN y)) 14 0 0) 14 0 = 0; rw [tA_eq]) hy (by rw [mPush_4, tA_eq]) (fun z => by omega) (fun zz => Bs_x0 h hy (by rw [h0]; decide) (Bs_same rfl (fun _ => rfl) zz)) (Nat.le_refl _) (by omega) (by omega)
    refine ⟨u', v', w', q', fun post k => hx 25 post (gx post k), fun post k => hm _ ⟨fun z => absurd z (by decide), fun _ x1 e1 => ?_⟩, gR, ?_, fun z => absurd hp0 z, by rcases g34 with g | g <;> (rw [g]; decide)⟩
    · have e10 := ip.2.1.2.2.2.2
      rw [e10] at e1
      subst e1
      refine m_push (t := 0) e10 (by omega) (by omega) (gm 0 _ _ (Nat.le_refl _) ⟨1, fun _ => k, fun z => absurd ?_ z⟩)
      rw [(RR_ip gR).2.1.2.2.2.2]
      exact Int32.le_refl _
    · refine hqn.trans gN (fun i hi => ?_) (Or.inl rfl)
      rw [mPush_4]
      by_cases hiy : i = y
      · rw [hiy, tA_eq]; decide
      · rw [tA_ne hiy]; exact hi
/-- a number of a job: out of range, of none, of one -/
theorem num3 (hj : j ≤ 24) (x : Int32) : (x < 0 ∨ ¬ x < 24) ∨ (¬ x < 0 ∧ x < 24 ∧ iN j ≤ x) ∨ ∃ i, i < j ∧ x = iN i := by
  by_cases h0 : x < 0
  · exact Or.inl (Or.inl h0)
  · by_cases h1 : x < 24
    · rcases num_or hj x with h | h | h
      · exact Or.inr (Or.inr h)
      · exact absurd h h0
      · exact Or.inr (Or.inl ⟨h0, h1, h⟩)
    · exact Or.inl (Or.inr h1)
theorem i23 (x : Int32) : x ≤ 23 ↔ x < 24 := by
  rw [Int32.le_iff_toInt_le, Int32.lt_iff_toInt_lt]
  have a : (23 : Int32).toInt = 23 := rfl
  have b : (24 : Int32).toInt = 24 := rfl
  omega
theorem e_knownA {post : Option Nat → gS → Prop} {px : String → gS → Prop} {p1 : Int32} (h : p1 < 0 ∨ ¬ p1 < 24) (k : px "java/lang/IllegalArgumentException" u) : wpX0_known K post px u p1 := by
  refine ⟨fun _ => k, fun z0 => ⟨fun z1 => ?_, fun _ => k⟩⟩
  rcases h with h | h
  · exact absurd h z0
  · exact absurd ((i23 p1).mp z1) h
theorem e_knownB {post : Option Nat → gS → Prop} {px : String → gS → Prop} {p1 : Int32} (hR : RK KMv K j v) (h0 : ¬ p1 < 0) (h1 : p1 < 24) (hj : iN j ≤ p1) (k : px "java/util/NoSuchElementException" u) : wpX0_known K post px u p1 :=
  ⟨fun z => absurd z h0, fun _ => ⟨fun _ => e_findN hR (Or.inr hj) ⟨fun _ => k, fun y5 e5 => (by cases e5)⟩, fun z => absurd ((i23 p1).mpr h1) z⟩⟩
theorem e_knownC {post : Option Nat → gS → Prop} {px : String → gS → Prop} {i : Nat} (hR : RK KMv K j v) (hj : j ≤ 24) (hi : i < j) (k : post (some (aA K i)) u) : wpX0_known K post px u (iN i) :=
  ⟨fun z => absurd z (iN_nneg (by omega)), fun _ => ⟨fun _ => e_findI hR hj hi ⟨fun z => (by cases z), fun y5 e5 => by cases e5; exact k⟩, fun z => absurd ((i23 _).mpr ((iN_lt (a := i) (b := 24) (by omega) (by omega)).mpr (by omega))) z⟩⟩
theorem f_outA {post : Int32 → gS → Prop} {p1 : Int32} (h : p1 < 0 ∨ ¬ p1 < 24) (k : post 1 v) : wpM6_out KMv post v p1 24 :=
  m_out (fun _ => k) (fun z0 z1 => by
    rcases h with h | h
    · exact absurd h (Int32.not_lt.mpr z0)
    · exact absurd z1 h)
theorem f_outB {post : Int32 → gS → Prop} {p1 : Int32} (h0 : ¬ p1 < 0) (h1 : p1 < 24) (k : post 0 v) : wpM6_out KMv post v p1 24 :=
  m_out (fun z => by
    rcases z with z | z
    · exact absurd z h0
    · exact absurd h1 z) (fun _ _ => k)
theorem f_outC {post : Int32 → gS → Prop} {i : Nat} (hi : i < 24) (k : post 0 v) : wpM6_out KMv post v (iN i) 24 := f_outB (iN_nneg (by omega)) ((iN_lt (a := i) (b := 24) (by omega) (by omega)).mpr hi) k
theorem not_lt_j {a1 : Int32} (e1 : sI v 1 = iN j) (hB : iN j ≤ a1) : ¬ a1 < sI v 1 := by rw [e1]; exact Int32.not_lt.mpr hB
theorem j_submit {a1 : Int32} (hK : KMI KMv) (hBm : B < 2147483647) (h : RR n B KMv K j 0 w q e 24 24 60 u v) (hE : vE v) : JA f (fun post => wpL_submit K post u f a1) (fun post => wpM6_submit KMv post v a1) (JR n B KMv K j) := by
  unfold wpL_submit wpX0_submit
  have ip := RR_ip h
  have hj := ip.1.1
  have e1 := ip.2.1.1
  rcases num3 hj a1 with hA | ⟨h0, h1, hB⟩ | ⟨i, hi, ei⟩
  · exact JA_no (c := 1) (r := 0) (u' := u) (v' := tI (tI v 0 0) 0 1) (by decide) (fun post k => e_knownA hA (Or.inl ⟨rfl, k⟩)) (fun post k => fun u1 e1' => by subst e1'; exact f_outA hA ⟨fun z => absurd z (by decide), fun _ => f_fail k⟩) rfl ⟨w, q, e, RR_i0 (RR_i0 h), hE⟩
  · refine JA_no (c := 2) (r := 0) (u' := u) (v' := tI (tI v 0 0) 0 2) (by decide) (fun post k => e_knownB h.1 h0 h1 hB (Or.inr (Or.inl ⟨rfl, k⟩))) (fun post k => fun u1 e1' => by subst e1'; exact f_outB h0 h1 ⟨fun _ => ⟨fun z => absurd z (not_lt_j e1 hB), fun _ => f_fail k⟩, fun z => absurd rfl z⟩) rfl ⟨w, q, e, RR_i0 (RR_i0 h), hE⟩
  · subst ei
    have mi := (h.1.2 i hi).2.1
    have s0 : sA u 0 (aA K i) = sA v 4 i := h.2.2.2.1 i hi
    have lt : iN i < sI v 1 := by rw [e1]; exact (iN_lt (by omega) (by omega)).mpr hi
    have vi : vp_in (iN i) 24 := iN_in (by omega) (by omega)
    have ni : (iN i).toNatClampNeg = i := iN_nat (by omega)
    by_cases c0 : sA v 4 i = 0
    case neg =>
      refine JA_no (c := 3) (r := 0) (u' := u) (v' := tI (tI v 0 0) 0 3) (by decide) (fun post k => e_knownC h.1 hj hi ⟨aA K i, rfl, mi, fun z => absurd (s0.symm.trans z) c0, fun _ => Or.inr (Or.inr (Or.inl ⟨rfl, k⟩))⟩) (fun post k => fun u1 e1' => by subst e1'; exact f_outC (by omega) ⟨fun _ => ⟨fun _ => ⟨vi, fun z => (by rw [ni] at z; exact absurd z c0), fun _ => f_fail k⟩, fun z => absurd lt z⟩, fun z => absurd rfl z⟩) rfl ⟨w, q, e, RR_i0 (RR_i0 h), hE⟩
    case pos =>
    obtain ⟨u', v', w', q', hx, hm, hR, hN, hS, hne⟩ := j_now hK (RR_i0 (s := 0) h) hBm hi c0
    have hE' : vE v' := vE_sm (v := tI v 0 0) hE hN.1.2.1 hS
    have s' : sA u' 0 (aA K i) = sA v' 4 i := hR.2.2.2.1 i hi
    have ip' := RR_ip hR
    have cl : ∀ (post : Int32 → gS × (Nat → Int64) → Prop), (¬ sA u' 0 (aA K i) = 6 → post 0 (u', vp_updL f (0 : Int32).toNatClampNeg (sA u' 0 (aA K i)).toInt64)) → (sA u' 0 (aA K i) = 6 → post 4 (u', f)) → wpX0_submit K (fun (r : Int32) (u1 : gS) => post 0 (u1, vp_updL f (0 : Int32).toNatClampNeg r.toInt64)) (fun (E : String) (u1 : gS) => (E = "java/lang/IllegalArgumentException" ∧ post 1 (u1, f)) ∨ (E = "java/util/NoSuchElementException" ∧ post 2 (u1, f)) ∨ (E = "java/lang/IllegalStateException" ∧ post 3 (u1, f)) ∨ (E = "java/lang/UnsupportedOperationException" ∧ post 4 (u1, f))) u (iN i) := fun post ka kb => by
      unfold wpX0_submit
      exact e_knownC h.1 hj hi ⟨aA K i, rfl, mi, fun _ => hx _ ⟨ka, fun z => Or.inr (Or.inr (Or.inr ⟨rfl, kb z⟩))⟩, fun z => absurd (s0.trans c0) z⟩
    have cm : ∀ (post : Int32 → gS → Prop), (¬ sA v' 4 i = 6 → post (sA v' 4 i) v') → (sA v' 4 i = 6 → post 0 (tI v' 0 4)) → wpM6_submit KMv post v (iN i) := fun post ka kb => fun u1 e1' => by
      subst e1'
      refine f_outC (by omega) ⟨fun _ => ⟨fun _ => ⟨vi, fun _ => hm _ ⟨vi, fun z => ⟨vi, ?_⟩, fun z => ?_⟩, fun z => ?_⟩, fun z => absurd lt z⟩, fun z => absurd rfl z⟩
      · rw [ni] at z ⊢
        exact f_end ip'.1.2.1 ip'.2.1.2.1 hE' (ka z)
      · rw [ni] at z
        exact f_fail (f_end (v := tI v' 0 4) ip'.1.2.1 ip'.2.1.2.1 hE' (kb z))
      · rw [ni] at z
        exact absurd c0 z
    by_cases c6 : sA v' 4 i = 6
    · exact JA_no (c := 4) (r := 0) (u' := u') (v' := tI v' 0 4) (by decide) (fun post k => cl post (fun z => absurd (s'.trans c6) z) (fun _ => k)) (fun post k => cm post (fun z => absurd c6 z) (fun _ => k)) rfl ⟨w', q', e, RR_i0 hR, hE'⟩
    · exact JA_ok (r := sA v' 4 i) (u' := u') (v' := v') (fun post k => cl post (fun _ => by rw [s']; exact k) (fun z => absurd (s'.symm.trans z) c6)) (fun post k => cm post (fun _ => k) (fun z => absurd z c6)) hN.1.1 ⟨w', q', e, hR, hE'⟩
end NOW
