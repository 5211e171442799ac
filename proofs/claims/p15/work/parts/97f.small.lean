/-! class and reference: then, get, clock, about, worker, count, delay, due -/
/-- both go on alike; what they answer isn't asked -/
def JW (X : (Int32 → gS × (Nat → Int64) → Prop) → Prop) (M : (Int32 → gS → Prop) → Prop) (Rel : gS → gS → Prop) : Prop :=
  ∃ (c r : Int32) (f' : Nat → Int64) (u' v' : gS), (∀ post, post c (u', f') → X post) ∧ (∀ post, post r v' → M post) ∧ Rel u' v'
theorem JA.weak {f : Nat → Int64} {X : (Int32 → gS × (Nat → Int64) → Prop) → Prop} {M : (Int32 → gS → Prop) → Prop} {Rel : gS → gS → Prop} (h : JA f X M Rel) : JW X M Rel := by
  obtain ⟨c, r, u', v', hx, hm, _, hR⟩ := h
  exact ⟨c, r, _, u', v', hx, hm, hR⟩
/-- the two answers of a call that answers a double -/
def JD (f : Nat → UInt64) (X : (Int32 → gS × (Nat → UInt64) → Prop) → Prop) (M : (UInt64 → gS → Prop) → Prop) (Rel : gS → gS → Prop) : Prop :=
  ∃ (c : Int32) (r : UInt64) (u' v' : gS), (∀ post, post c (u', if c = 0 then vf_upd f (0 : Int32).toNatClampNeg r else f) → X post) ∧ (∀ post, post r v' → M post) ∧ sI v' 0 = c ∧ Rel u' v' ∧ dN r
section SML
variable {n : Int} {B : Nat} {KMv : KM} {K : KX} {j t w q e x x0 g T y : Nat} {u v : gS} {f : Nat → Int64} {fd : Nat → UInt64}
/-- the number of what follows -/
theorem e_next {post : Int32 → gS → Prop} (h : RR n B KMv K j t w q e x x0 g u v) (hy : y < j) (k : post (sA v 5 y) u) : wpX5_nextNumber K post u (aA K y) := by
  have hj := (RR_ip h).1.1
  have r3 : sQ u 3 (aA K y) = oJ K (sA v 5 y) := h.2.2.2.2.2.2.1 y hy
  intro r1 e1
  rw [r3] at e1
  rcases (RR_ip h).2.2.2.2.2.1 y hy with hn | ⟨z, hz, ez⟩
  · have : sA v 5 y = -1 := h.2.2.2.2.2.2.2.2.2.2.2.2.2.2.1.2 y hy hn
    rw [oJ_neg hn] at e1
    subst e1
    rw [this] at k
    exact ⟨fun _ => k, fun y2 e2 => (by cases e2)⟩
  · rw [ez, oJ_N (by omega)] at e1 r3
    subst e1
    rw [ez] at k
    refine ⟨fun z => (by cases z), fun y2 _ r3' e3 => ⟨aA K z, e3.trans r3, (h.1.2 z hz).2.1, ?_⟩⟩
    rw [(h.1.2 z hz).2.2.1]
    exact k
theorem RR_next {z : Nat} (h : RR n B KMv K j t w q e x x0 g u v) (hy : y < j) (hz : z < j) : RR n B KMv K j t w q e x x0 g (tQ u 3 (aA K y) (some (aA K z))) (tA v 5 y (iN z)) := by
  obtain ⟨rk, rs, rz, r0, r1, r2, r3, rp, rw_, rl, rt, vq, vb, vn, vz, ip⟩ := h
  have hj := ip.1.1
  obtain ⟨a, b, c, d, f', gx, r⟩ := ip
  refine ⟨rk, rs, rz, r0, r1, r2, fun i hi => ?_, rp, rw_, rl, rt, vq, vb, vn, ⟨vz.1, fun i hi hl => ?_⟩, a, b, c, d, f', fun i hi => ?_, r⟩
  · rw [sQ_tQ, if_pos rfl]
    by_cases hiy : i = y
    · rw [hiy, if_pos rfl, tA_eq, oJ_N (by omega)]
    · rw [if_neg (fun z' => hiy (RK_inj rk hj hi hy z')), tA_ne hiy]; exact r3 i hi
  · by_cases hiy : i = y
    · rw [hiy, tA_eq] at hl; exact absurd hl (iN_nneg (by omega))
    · rw [tA_ne hiy] at hl ⊢; exact vz.2 i hi hl
  · by_cases hiy : i = y
    · rw [hiy, tA_eq]; exact Or.inr ⟨z, hz, rfl⟩
    · rw [tA_ne hiy]; exact gx i hi
theorem j_then {a1 a2 : Int32} (h : RR n B KMv K j 0 w q e 24 24 60 u v) (hE : vE v) : JW (fun post => wpL_then K post u f a1 a2) (fun post => wpM6_then KMv post v a1 a2) (JR n B KMv K j) := by
  unfold wpL_then wpX0_then
  have ip := RR_ip h
  have hj := ip.1.1
  have e1 := ip.2.1.1
  have no : ∀ {X : (Int32 → gS × (Nat → Int64) → Prop) → Prop} {M : (Int32 → gS → Prop) → Prop} (c s : Int32), (∀ post : Int32 → gS × (Nat → Int64) → Prop, post c (u, f) → X post) → (∀ post : Int32 → gS → Prop, post 0 (tI (tI v 0 0) 0 s) → M post) → JW X M (JR n B KMv K j) := fun {X M} c s hx hm => ⟨c, 0, f, u, _, hx, hm, w, q, e, RR_i0 (RR_i0 h), hE⟩
  rcases num3 hj a2 with hA2 | hA2
  · -- the second is out of range
    have cx : ∀ post : Int32 → gS × (Nat → Int64) → Prop, post 1 (u, f) → wpL_then K post u f a1 a2 := fun post k => ⟨fun _ => Or.inl ⟨rfl, k⟩, fun z0 => ⟨fun z1 => by
      rcases hA2 with z | z
      · exact absurd z z0
      · exact absurd ((i23 a2).mp z1) z, fun _ => Or.inl ⟨rfl, k⟩⟩⟩
    refine no 1 1 cx (fun post k => fun u1 e1' => ?_)
    subst e1'
    exact m_out (fun _ => ⟨fun _ => f_fail k, fun z => absurd z (by decide)⟩) (fun _ _ => ⟨fun z => absurd rfl z, fun _ => f_outA hA2 ⟨fun _ => f_fail k, fun z => absurd z (by decide)⟩⟩)
  have b2 : ¬ a2 < 0 ∧ a2 < 24 := by
    rcases hA2 with ⟨z0, z1, _⟩ | ⟨i, hi, ei⟩
    · exact ⟨z0, z1⟩
    · rw [ei]; exact ⟨iN_nneg (by omega), (iN_lt (a := i) (b := 24) (by omega) (by omega)).mpr (by omega)⟩
  have rng : ∀ {post : gS → Prop} {px : String → gS → Prop}, post u → wpX0_checkRange K post px u a2 0 23 := fun k => ⟨fun z => absurd z b2.1, fun _ => ⟨fun _ => k, fun z => absurd ((i23 a2).mpr b2.2) z⟩⟩
  rcases num3 hj a1 with hA | ⟨h0, h1, hB⟩ | ⟨i, hi, ei⟩
  · refine no 1 1 (fun post k => rng (e_knownA hA (Or.inl ⟨rfl, k⟩))) (fun post k => fun u1 e1' => ?_)
    subst e1'
    exact f_outA hA ⟨fun _ => f_fail k, fun z => absurd z (by decide)⟩
  · have cx : ∀ post : Int32 → gS × (Nat → Int64) → Prop, post 2 (u, f) → wpL_then K post u f a1 a2 := fun post k => by
      unfold wpL_then wpX0_then
      exact rng (e_knownB h.1 h0 h1 hB (Or.inr (Or.inl ⟨rfl, k⟩)))
    by_cases he : a1 = a2
    · refine no 2 1 cx (fun post k => fun u1 e1' => ?_)
      subst e1'
      exact f_outB h0 h1 ⟨fun z => absurd rfl z, fun _ => f_outB b2.1 b2.2 ⟨fun z => absurd rfl z, fun _ => ⟨fun z => absurd he z, fun _ => f_fail k⟩⟩⟩
    · refine no 2 2 cx (fun post k => fun u1 e1' => ?_)
      subst e1'
      exact f_outB h0 h1 ⟨fun z => absurd rfl z, fun _ => f_outB b2.1 b2.2 ⟨fun z => absurd rfl z, fun _ => ⟨fun _ => ⟨fun _ => f_fail k, fun z => absurd (show sI v 1 ≤ a1 by rw [e1]; exact hB) z⟩, fun z => absurd z he⟩⟩⟩
  subst ei
  have vi : vp_in (iN i) 24 := iN_in (by omega) (by omega)
  have ni : (iN i).toNatClampNeg = i := iN_nat (by omega)
  have nle : ¬ sI v 1 ≤ iN i := fun z => by
    rw [e1] at z
    have := (iN_le (by omega) (by omega)).mp z; omega
  rcases hA2 with ⟨h0, h1, hB⟩ | ⟨z, hz, ez⟩
  · refine no 2 2 (fun post k => rng (e_knownC h.1 hj hi (e_knownB h.1 h0 h1 hB (Or.inr (Or.inl ⟨rfl, k⟩))))) (fun post k => fun u1 e1' => ?_)
    subst e1'
    have ne : ¬ iN i = a2 := fun z => by
      rw [← z] at hB
      have := (iN_le (by omega) (by omega)).mp hB; omega
    exact f_outC (by omega) ⟨fun z => absurd rfl z, fun _ => f_outB h0 h1 ⟨fun z => absurd rfl z, fun _ => ⟨fun _ => ⟨fun z => absurd z nle, fun _ => ⟨fun z => absurd z (not_lt_j e1 hB), fun _ => f_fail k⟩⟩, fun z => absurd z ne⟩⟩⟩
  subst ez
  have ltz : iN z < sI v 1 := by rw [e1]; exact (iN_lt (by omega) (by omega)).mpr hz
  by_cases he : i = z
  · subst he
    refine no 1 1 (fun post k => rng (e_knownC h.1 hj hi (e_knownC h.1 hj hz ⟨fun z' => absurd rfl z', fun _ => Or.inl ⟨rfl, k⟩⟩))) (fun post k => fun u1 e1' => ?_)
    subst e1'
    exact f_outC (by omega) ⟨fun z => absurd rfl z, fun _ => f_outC (by omega) ⟨fun z => absurd rfl z, fun _ => ⟨fun z => absurd rfl z, fun _ => f_fail k⟩⟩⟩
  have ne : ¬ iN i = iN z := fun z' => he ((iN_inj (by omega) (by omega)).mp z')
  have nea : ¬ some (aA K i) = some (aA K z) := fun z' => he (RK_inj h.1 hj hi hz (Option.some.inj z'))
  have s0 : sA u 0 (aA K i) = sA v 4 i := h.2.2.2.1 i hi
  have mi := (h.1.2 i hi).2.1
  by_cases c2 : sA v 4 i ≤ 2
  · refine ⟨0, sA v 5 i, _, _, _, fun post k => rng (e_knownC h.1 hj hi (e_knownC h.1 hj hz ⟨fun _ => ⟨aA K i, rfl, mi, fun _ => e_next h hi (fun u13 e13 => by subst e13; exact k), fun z' => absurd (by rw [s0]; exact c2) z'⟩, fun z' => absurd z' nea⟩)), fun post k => fun u1 e1' => ?_, w, q, e, RR_next (RR_i0 (s := 0) h) hi hz, hE⟩
    subst e1'
    refine f_outC (by omega) ⟨fun z => absurd rfl z, fun _ => f_outC (by omega) ⟨fun z => absurd rfl z, fun _ => ⟨fun _ => ⟨fun z => absurd z nle, fun _ => ⟨fun _ => ⟨vi, ?_⟩, fun z => absurd ltz z⟩⟩, fun z => absurd z ne⟩⟩⟩
    rw [ni]
    refine ⟨fun _ => ⟨vi, fun x18 e18 => ⟨vi, fun u19 e19 => ?_⟩⟩, fun z => absurd c2 z⟩
    subst e18 e19
    exact f_end (w := w) ip.1.2.1 ip.2.1.2.1 hE k
  · refine no 3 3 (fun post k => rng (e_knownC h.1 hj hi (e_knownC h.1 hj hz ⟨fun _ => ⟨aA K i, rfl, mi, fun z' => absurd (by rw [s0] at z'; exact z') c2, fun _ => Or.inr (Or.inr ⟨rfl, k⟩)⟩, fun z' => absurd z' nea⟩))) (fun post k => fun u1 e1' => ?_)
    subst e1'
    refine f_outC (by omega) ⟨fun z => absurd rfl z, fun _ => f_outC (by omega) ⟨fun z => absurd rfl z, fun _ => ⟨fun _ => ⟨fun z => absurd z nle, fun _ => ⟨fun _ => ⟨vi, ?_⟩, fun z => absurd ltz z⟩⟩, fun z => absurd z ne⟩⟩⟩
    rw [ni]
    exact ⟨fun z => absurd z c2, fun _ => f_fail k⟩
theorem j_get {a1 : Int32} (h : RR n B KMv K j 0 w q e 24 24 60 u v) (hE : vE v) : JA f (fun post => wpL_get K post u f a1) (fun post => wpM6_get KMv post v a1) (JR n B KMv K j) := by
  unfold wpL_get wpX0_get
  have ip := RR_ip h
  have hj := ip.1.1
  have e1 := ip.2.1.1
  rcases num3 hj a1 with hA | ⟨h0, h1, hB⟩ | ⟨i, hi, ei⟩
  · exact JA_no (c := 1) (r := 0) (u' := u) (v' := tI (tI v 0 0) 0 1) (by decide) (fun post k => e_knownA hA (Or.inl ⟨rfl, k⟩)) (fun post k => fun u1 e1' => by subst e1'; exact f_outA hA ⟨fun z => absurd z (by decide), fun _ => f_fail k⟩) rfl ⟨w, q, e, RR_i0 (RR_i0 h), hE⟩
  · refine JA_no (c := 2) (r := 0) (u' := u) (v' := tI (tI v 0 0) 0 2) (by decide) (fun post k => e_knownB h.1 h0 h1 hB (Or.inr (Or.inl ⟨rfl, k⟩))) (fun post k => fun u1 e1' => by subst e1'; exact f_outB h0 h1 ⟨fun _ => ⟨fun z => absurd z (not_lt_j e1 hB), fun _ => f_fail k⟩, fun z => absurd rfl z⟩) rfl ⟨w, q, e, RR_i0 (RR_i0 h), hE⟩
  subst ei
  have mi := (h.1.2 i hi).2.1
  have s0 : sA u 0 (aA K i) = sA v 4 i := h.2.2.2.1 i hi
  have s1 : sA u 1 (aA K i) = sA v 6 i := h.2.2.2.2.1 i hi
  have s7 : sA u 2 (aA K i) = sA v 7 i := h.2.2.2.2.2.1 i hi
  have lt : iN i < sI v 1 := by rw [e1]; exact (iN_lt (by omega) (by omega)).mpr hi
  have vi : vp_in (iN i) 24 := iN_in (by omega) (by omega)
  have ni : (iN i).toNatClampNeg = i := iN_nat (by omega)
  have go : ∀ {X : (Int32 → gS × (Nat → Int64) → Prop) → Prop} {M : (Int32 → gS → Prop) → Prop} (c : Int32), c ≠ 0 → (∀ post : Int32 → gS × (Nat → Int64) → Prop, post c (u, f) → X post) → (∀ post : Int32 → gS → Prop, post 0 (tI (tI v 0 0) 0 c) → M post) → JA f X M (JR n B KMv K j) := fun {X M} c hc hx hm => JA_no (c := c) (r := 0) (u' := u) (v' := tI (tI v 0 0) 0 c) hc hx hm rfl ⟨w, q, e, RR_i0 (RR_i0 h), hE⟩
  by_cases c3 : sA v 4 i = 3
  · refine JA_ok (r := sA v 6 i) (u' := u) (v' := tI v 0 0) (fun post k => e_knownC h.1 hj hi ⟨aA K i, rfl, mi, fun z => absurd (s0.trans c3) z, fun _ => by rw [s1]; exact k⟩) (fun post k => fun u1 e1' => ?_) rfl ⟨w, q, e, RR_i0 h, hE⟩
    subst e1'
    refine f_outC (by omega) ⟨fun _ => ⟨fun _ => ⟨vi, ?_⟩, fun z => absurd lt z⟩, fun z => absurd rfl z⟩
    rw [ni]
    exact ⟨fun z => absurd c3 z, fun _ => ⟨vi, f_end (v := tI v 0 0) ip.1.2.1 ip.2.1.2.1 hE k⟩⟩
  by_cases c4 : sA v 4 i = 4
  case neg =>
    refine go 2 (by decide) (fun post k => e_knownC h.1 hj hi ⟨aA K i, rfl, mi, fun _ => ⟨fun z => absurd (s0.symm.trans z) c4, fun _ => Or.inr (Or.inl ⟨rfl, k⟩)⟩, fun z => absurd (s0.symm.trans z) c3⟩) (fun post k => fun u1 e1' => ?_)
    subst e1'
    refine f_outC (by omega) ⟨fun _ => ⟨fun _ => ⟨vi, ?_⟩, fun z => absurd lt z⟩, fun z => absurd rfl z⟩
    rw [ni]
    exact ⟨fun _ => ⟨vi, fun z => absurd z c4, fun _ => f_fail k⟩, fun z => absurd z c3⟩
  have cx : ∀ {post : Int32 → gS × (Nat → Int64) → Prop}, ((sA v 7 i = 1 → post 6 (u, f)) ∧ (¬ sA v 7 i = 1 → ((sA v 7 i = 2 → post 5 (u, f)) ∧ (¬ sA v 7 i = 2 → ((sA v 7 i = 3 → post 3 (u, f)) ∧ (¬ sA v 7 i = 3 → ((sA v 7 i = 4 → post 4 (u, f)) ∧ (¬ sA v 7 i = 4 → post 3 (u, f))))))))) → wpL_get K post u f (iN i) := fun {post} k => by
    unfold wpL_get wpX0_get
    refine e_knownC h.1 hj hi ⟨aA K i, rfl, mi, fun _ => ⟨fun _ => ?_, fun z => absurd (s0.trans c4) z⟩, fun z => absurd (s0.symm.trans z) c3⟩
    show ((sA u 2 (aA K i) = 1 → _) ∧ (¬ sA u 2 (aA K i) = 1 → _))
    rw [s7]
    exact ⟨fun z => Or.inr (Or.inr (Or.inr (Or.inr (Or.inr ⟨rfl, k.1 z⟩)))), fun z => ⟨fun z2 => Or.inr (Or.inr (Or.inr (Or.inr (Or.inl ⟨rfl, (k.2 z).1 z2⟩)))), fun z2 => ⟨fun z3 => Or.inr (Or.inr (Or.inl ⟨rfl, ((k.2 z).2 z2).1 z3⟩)), fun z3 => ⟨fun z4 => Or.inr (Or.inr (Or.inr (Or.inl ⟨rfl, (((k.2 z).2 z2).2 z3).1 z4⟩))), fun z4 => Or.inr (Or.inr (Or.inl ⟨rfl, (((k.2 z).2 z2).2 z3).2 z4⟩))⟩⟩⟩⟩
  have cm : ∀ {post : Int32 → gS → Prop}, ((¬ sA v 7 i = 1 → ((¬ sA v 7 i = 2 → ((¬ sA v 7 i = 4 → post 0 (tI (tI v 0 0) 0 3)) ∧ (sA v 7 i = 4 → post 0 (tI (tI v 0 0) 0 4)))) ∧ (sA v 7 i = 2 → post 0 (tI (tI v 0 0) 0 5)))) ∧ (sA v 7 i = 1 → post 0 (tI (tI v 0 0) 0 6))) → wpM6_get KMv post v (iN i) := fun {post} k => fun u1 e1' => by
    subst e1'
    refine f_outC (by omega) ⟨fun _ => ⟨fun _ => ⟨vi, ?_⟩, fun z => absurd lt z⟩, fun z => absurd rfl z⟩
    rw [ni]
    refine ⟨fun _ => ⟨vi, fun _ => ⟨vi, fun x8 e8 => ?_⟩, fun z => absurd c4 z⟩, fun z => absurd z c3⟩
    have e8' : x8 = sA v 7 i := e8
    rw [e8']
    exact ⟨fun z => ⟨fun z2 => ⟨fun z4 => f_fail (((k.1 z).1 z2).1 z4), fun z4 => f_fail (((k.1 z).1 z2).2 z4)⟩, fun z2 => f_fail ((k.1 z).2 z2)⟩, fun z => f_fail (k.2 z)⟩
  by_cases t1 : sA v 7 i = 1
  · exact go 6 (by decide) (fun post k => cx ⟨fun _ => k, fun z => absurd t1 z⟩) (fun post k => cm ⟨fun z => absurd t1 z, fun _ => k⟩)
  by_cases t2 : sA v 7 i = 2
  · exact go 5 (by decide) (fun post k => cx ⟨fun z => absurd z t1, fun _ => ⟨fun _ => k, fun z => absurd t2 z⟩⟩) (fun post k => cm ⟨fun _ => ⟨fun z => absurd t2 z, fun _ => k⟩, fun z => absurd z t1⟩)
  by_cases t4 : sA v 7 i = 4
  · exact go 4 (by decide) (fun post k => cx ⟨fun z => absurd z t1, fun _ => ⟨fun z => absurd z t2, fun _ => ⟨fun z => absurd (t4.symm.trans z) (by decide), fun _ => ⟨fun _ => k, fun z => absurd t4 z⟩⟩⟩⟩) (fun post k => cm ⟨fun _ => ⟨fun _ => ⟨fun z => absurd t4 z, fun _ => k⟩, fun z => absurd z t2⟩, fun z => absurd z t1⟩)
  · exact go 3 (by decide) (fun post k => cx ⟨fun z => absurd z t1, fun _ => ⟨fun z => absurd z t2, fun _ => ⟨fun _ => k, fun _ => ⟨fun z => absurd z t4, fun _ => k⟩⟩⟩⟩) (fun post k => cm ⟨fun _ => ⟨fun _ => ⟨fun _ => k, fun z => absurd z t4⟩, fun z => absurd z t2⟩, fun z => absurd z t1⟩)
theorem e_spanN {post : gS → Prop} {px : String → gS → Prop} {p1 : UInt64} {p2 : Int32} (h : (Op.cmpValue (FP.dcmp p1 FP.dconst0) .l) < 0 ∨ ¬ (Op.cmpValue (FP.dcmp p1 (FP.i2d p2)) .g) ≤ 0) (k : px "java/lang/IllegalArgumentException" u) : wpX0_checkSpan K post px u p1 p2 := by
  refine ⟨fun _ => k, fun z => ⟨fun z2 => ?_, fun _ => k⟩⟩
  rcases h with h | h
  · exact absurd h z
  · exact absurd z2 h
theorem e_spanY {post : gS → Prop} {px : String → gS → Prop} {p1 : UInt64} {p2 : Int32} (h1 : ¬ (Op.cmpValue (FP.dcmp p1 FP.dconst0) .l) < 0) (h2 : (Op.cmpValue (FP.dcmp p1 (FP.i2d p2)) .g) ≤ 0) (k : post u) : wpX0_checkSpan K post px u p1 p2 := ⟨fun z => absurd z h1, fun _ => ⟨fun _ => k, fun z => absurd h2 z⟩⟩
theorem j_clock {a1 : Int32} {p2 p3 : UInt64} (hn : n ≤ 1000000000) (h : RR n B KMv K j 0 w q e 24 24 60 u v) (hE : vE v) : JA f (fun post => wpL_clock K post u f a1 p2 p3) (fun post => wpM6_clock KMv post v a1 p2 p3) (JR (n + 1000) B KMv K j) := by
  unfold wpL_clock wpX0_clock
  have ip := RR_ip h
  have hj := ip.1.1
  have he := ip.1.2.2.2
  have e1 := ip.2.1.1
  have e7 := ip.2.1.2.2.2.1
  have e6u : sI u 6 = iN e := h.2.2.1.2.2
  have ph : sI u 0 = sI v 2 := h.2.1.1
  have tm : sD u 0 = sD v 0 := h.2.1.2.2.2.2.1
  have no : ∀ {X : (Int32 → gS × (Nat → Int64) → Prop) → Prop} {M : (Int32 → gS → Prop) → Prop} (c : Int32), c ≠ 0 → (∀ post : Int32 → gS × (Nat → Int64) → Prop, post c (u, f) → X post) → (∀ post : Int32 → gS → Prop, post 0 (tI (tI v 0 0) 0 c) → M post) → JA f X M (JR (n + 1000) B KMv K j) := fun {X M} c hc hx hm => JA_no (c := c) (r := 0) (u' := u) (v' := tI (tI v 0 0) 0 c) hc hx hm rfl ⟨w, q, e, RR_n (RR_i0 (RR_i0 h)) (by omega), hE⟩
  have pos : ∀ {x : Int32}, ¬ x ≤ 0 ↔ 0 < x := fun {x} => Int32.not_le
  by_cases b2 : (Op.cmpValue (FP.dcmp p2 FP.dconst0) .l) < 0 ∨ ¬ (Op.cmpValue (FP.dcmp p2 4652007308841189376) .g) ≤ 0
  · refine no 1 (by decide) (fun post k => e_spanN (by rw [i1000]; exact b2) (Or.inl ⟨rfl, k⟩)) (fun post k => fun u1 e1' => ?_)
    subst e1'
    refine m_out (fun _ => ⟨fun _ => f_fail k, fun z => absurd z (by decide)⟩) (fun _ _ => ⟨fun z => absurd rfl z, fun _ => ⟨fun _ => f_fail k, fun z => ⟨fun _ => f_fail k, fun z2 => ?_⟩⟩⟩)
    rcases b2 with b2 | b2
    · exact absurd b2 z
    · exact absurd (pos.mp b2) z2
  have p2a : ¬ (Op.cmpValue (FP.dcmp p2 FP.dconst0) .l) < 0 := fun z => b2 (Or.inl z)
  have p2b : (Op.cmpValue (FP.dcmp p2 4652007308841189376) .g) ≤ 0 := Classical.byContradiction (fun z => b2 (Or.inr z))
  have p2c : ¬ 0 < (Op.cmpValue (FP.dcmp p2 4652007308841189376) .g) := fun z => pos.mpr z p2b
  have sp2 : ∀ {post : gS → Prop} {px : String → gS → Prop}, post u → wpX0_checkSpan K post px u p2 1000 := fun k => e_spanY p2a (by rw [i1000]; exact p2b) k
  by_cases b3 : (Op.cmpValue (FP.dcmp p3 FP.dconst0) .l) < 0 ∨ ¬ (Op.cmpValue (FP.dcmp p3 4652007308841189376) .g) ≤ 0
  · refine no 1 (by decide) (fun post k => sp2 (e_spanN (by rw [i1000]; exact b3) (Or.inl ⟨rfl, k⟩))) (fun post k => fun u1 e1' => ?_)
    subst e1'
    refine m_out (fun _ => ⟨fun _ => f_fail k, fun z => absurd z (by decide)⟩) (fun _ _ => ⟨fun z => absurd rfl z, fun _ => ⟨fun z => absurd z p2a, fun _ => ⟨fun z => absurd z p2c, fun _ => ⟨fun _ => f_fail k, fun z => ⟨fun z2 => ?_, fun _ => f_fail k⟩⟩⟩⟩⟩)
    rcases b3 with b3 | b3
    · exact absurd b3 z
    · exact absurd z2 b3
  have p3a : ¬ (Op.cmpValue (FP.dcmp p3 FP.dconst0) .l) < 0 := fun z => b3 (Or.inl z)
  have p3b : (Op.cmpValue (FP.dcmp p3 4652007308841189376) .g) ≤ 0 := Classical.byContradiction (fun z => b3 (Or.inr z))
  have sp : ∀ {post : gS → Prop} {px : String → gS → Prop} , post u → wpX0_checkSpan K (fun u2 => wpX0_checkSpan K post px u2 p3 1000) px u p2 1000 := fun k => sp2 (e_spanY p3a (by rw [i1000]; exact p3b) k)
  rcases num3 hj a1 with hA | ⟨h0, h1, hB⟩ | ⟨i, hi, ei⟩
  · refine no 1 (by decide) (fun post k => sp (e_knownA hA (Or.inl ⟨rfl, k⟩))) (fun post k => fun u1 e1' => ?_)
    subst e1'
    exact f_outA hA ⟨fun _ => f_fail k, fun z => absurd z (by decide)⟩
  · refine no 2 (by decide) (fun post k => sp (e_knownB h.1 h0 h1 hB (Or.inr (Or.inl ⟨rfl, k⟩)))) (fun post k => fun u1 e1' => ?_)
    subst e1'
    exact f_outB h0 h1 ⟨fun z => absurd rfl z, fun _ => ⟨fun z => absurd z p2a, fun _ => ⟨fun z => absurd z p2c, fun _ => ⟨fun z => absurd z p3a, fun _ => ⟨fun _ => ⟨fun z => absurd z (not_lt_j e1 hB), fun _ => f_fail k⟩, fun z => absurd p3b z⟩⟩⟩⟩⟩
  subst ei
  have mi := (h.1.2 i hi).2.1
  have lt : iN i < sI v 1 := by rw [e1]; exact (iN_lt (by omega) (by omega)).mpr hi
  have cm : ∀ {post : Int32 → gS → Prop}, ((¬ sI v 2 = 0 → post 0 (tI (tI v 0 0) 0 3)) ∧ (sI v 2 = 0 → ((¬ sI v 7 = 10 → (vf_n64 (FP.dadd (sD v 0) p2) ∧ wpM6_put KMv (fun (u23 : gS) => wpM6_end KMv (fun (r24 : Int32) (u25 : gS) => post r24 u25) u23 (sI u23 7)) (tI v 0 0) (iN i) (FP.dadd (sD v 0) p2) p3)) ∧ (sI v 7 = 10 → post 0 (tI (tI v 0 0) 0 3))))) → wpM6_clock KMv post v (iN i) p2 p3 := fun {post} k => fun u1 e1' => by
    subst e1'
    exact f_outC (by omega) ⟨fun z => absurd rfl z, fun _ => ⟨fun z => absurd z p2a, fun _ => ⟨fun z => absurd z p2c, fun _ => ⟨fun z => absurd z p3a, fun _ => ⟨fun _ => ⟨fun _ => ⟨fun z => f_fail (k.1 z), fun z => ⟨fun z2 => (k.2 z).1 z2, fun z2 => f_fail ((k.2 z).2 z2)⟩⟩, fun z => absurd lt z⟩, fun z => absurd p3b z⟩⟩⟩⟩⟩
  by_cases c0 : sI v 2 = 0
  case neg =>
    exact no 3 (by decide) (fun post k => sp (e_knownC h.1 hj hi ⟨fun _ => Or.inr (Or.inr ⟨rfl, k⟩), fun z => absurd (ph.symm.trans z) c0⟩)) (fun post k => cm ⟨fun _ => k, fun z => absurd z c0⟩)
  by_cases c10 : e = 10
  · have c10v : sI v 7 = 10 := by rw [e7, c10]; rfl
    have c10u : ¬ sI u 6 < 10 := by rw [e6u, c10]; decide
    exact no 3 (by decide) (fun post k => sp (e_knownC h.1 hj hi ⟨fun z => absurd (ph.trans c0) z, fun _ => ⟨fun z => absurd z c10u, fun _ => Or.inr (Or.inr ⟨rfl, k⟩)⟩⟩)) (fun post k => cm ⟨fun z => absurd c0 z, fun _ => ⟨fun z => absurd c10v z, fun _ => k⟩⟩)
  · have c10v : ¬ sI v 7 = 10 := by
      rw [e7]
      exact fun z => c10 ((iN_inj (b := 10) (by omega) (by omega)).mp z)
    have c10u : sI u 6 < 10 := by rw [e6u]; exact (iN_lt (b := 10) (by omega) (by omega)).mpr (by omega)
    have hp2 : dB 1000 p2 := dB_between (cv_l p2a) (cv_g p2b) (dB_zero (by omega)) d1000
    have hp3 : dB 1000 p3 := dB_between (cv_l p3a) (cv_g p3b) (dB_zero (by omega)) d1000
    have ha : dB (n + 1000) (FP.dadd (sD v 0) p2) := dB_add ip.2.2.2.2.2.2.2.2.2.2.2.1 hp2 (by omega)
    have hR := RR_put (RR_n (m := n + 1000) (RR_i0 (s := 0) h) (by omega)) (by omega) hi ha hp3
    refine JA_ok (r := iN (e + 1)) (u' := _) (v' := _) (fun post k => sp (e_knownC h.1 hj hi ⟨fun z => absurd (ph.trans c0) z, fun _ => ⟨fun _ => ?_, fun z => absurd c10u z⟩⟩)) (fun post k => cm ⟨fun z => absurd c0 z, fun _ => ⟨fun _ => ⟨dN_n64 ha.1, f_put (v := tI v 0 0) (by omega) e7 (f_end (w := w) ip.1.2.1 ip.2.1.2.1 hE k)⟩, fun z => absurd z c10v⟩⟩) rfl ⟨w, q, e + 1, hR, hE⟩
    rw [tm]
    exact ⟨dN_n64 ha.1, aA K i, rfl, mi, e_put (by omega) e6u k⟩
end SML
