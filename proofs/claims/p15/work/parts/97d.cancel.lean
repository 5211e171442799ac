/-! class and reference: cancel -/
theorem mDq_st {v : gS} {y a i : Nat} {s c : Int32} : mDq (tI (tA v 4 y s) 6 c) a i = tA (mDq (tI v 6 c) a i) 4 y s := by
  show fB (fA (tA (tI v 6 c) 4 y s) 11 (sh (sA (tI v 6 c) 11) a i)) 1 (sh (sB (tI v 6 c) 1) a i) = _
  rw [← tA_fA' (by decide)]
  rfl
section CAN
variable {n : Int} {B : Nat} {KMv : KM} {K : KX} {j t w q e x x0 g T y : Nat} {u v : gS} {f : Nat → Int64}
theorem oJ_eq (h : RK KMv K j v) (hj : j ≤ 24) (hy : y < j) {s : Int32} (hs : s < 0 ∨ ∃ b, b < j ∧ s = iN b) : (oJ K s = some (aA K y)) ↔ s = iN y := by
  rcases hs with hs | ⟨b, hb, eb⟩
  · rw [oJ_neg hs]
    exact ⟨fun z => (by cases z), fun z => by rw [z] at hs; exact absurd hs (iN_nneg (by omega))⟩
  · rw [eb, oJ_N (by omega)]
    refine ⟨fun z => ?_, fun z => ?_⟩
    · have := RK_inj h hj hb hy (Option.some.inj z)
      rw [this]
    · have : b = y := (iN_inj (by omega) (by omega)).mp z
      rw [this]
/-- a job's place in the queue, and its worker's place: alike -/
theorem j_scanQ (h : RR n B KMv K j t w q e x x0 g u v) (hy : y < j) : scan (fun i => decide (sQ u 1 i = some (aA K y))) q 0 = scan (fun i => decide (sA v 11 i = iN y)) q 0 := by
  refine scan_congr q 0 (fun k _ hk => ?_)
  have ip := RR_ip h
  show decide (sQ u 1 k = some (aA K y)) = decide (sA v 11 k = iN y)
  rw [(h.2.2.2.2.2.2.2.2.2.1 k (by omega)).1]
  exact decide_eq_decide.mpr (oJ_eq h.1 ip.1.1 hy (Or.inr (ip.2.2.2.1 k (by omega))))
theorem j_scanW (h : RR n B KMv K j t w q e x x0 g u v) (hy : y < j) : scan (fun i => decide (sQ u 4 (aW u i) = some (aA K y))) w 0 = scan (fun i => decide (sA v 9 i = iN y)) w 0 := by
  refine scan_congr w 0 (fun k _ hk => ?_)
  have ip := RR_ip h
  show decide (sQ u 4 (aW u k) = some (aA K y)) = decide (sA v 9 k = iN y)
  rw [(h.2.2.2.2.2.2.2.2.1 k (by omega)).1]
  exact decide_eq_decide.mpr (oJ_eq h.1 ip.1.1 hy (ip.2.2.1 k (by omega)))
theorem scan_at {P : Nat → Bool} {c k : Nat} (hk : k < c) (hp : P k = true) (hu : ∀ m, m < c → P m = true → m = k) : scan P c 0 = iN k := by
  rcases scan_spec (P := P) c 0 with ⟨_, h2⟩ | ⟨k', _, h2, h3, h4, _⟩
  · have := h2 k (by omega) (by omega)
    rw [hp] at this; cases this
  · rw [h3, hu k' (by omega) h4]
theorem scan_no {P : Nat → Bool} {c : Nat} (hu : ∀ m, m < c → P m = false) : scan P c 0 = -1 := by
  rcases scan_spec (P := P) c 0 with ⟨h1, _⟩ | ⟨k', _, h2, h3, h4, _⟩
  · exact h1
  · rw [hu k' (by omega)] at h4; cases h4
/-- who isn't QUEUED stands in no queue, who isn't RUNNING has no worker -/
theorem no_q (h : RR n B KMv K j t w q e x x0 g u v) (hy : y < j) (h1 : sA v 4 y ≠ 1) : ∀ k, k < q → sA v 11 k ≠ iN y := fun k hk ez => h1 (h.2.2.2.2.2.2.2.2.2.2.2.1.1 k y hk hy ez)
theorem no_b (h : RR n B KMv K j t w q e x 24 g u v) (hy : y < j) (h2 : sA v 4 y ≠ 2) : ∀ k, k < w → sA v 9 k ≠ iN y := fun k hk ez => by
  have hj := (RR_ip h).1.1
  rcases h.2.2.2.2.2.2.2.2.2.2.2.2.1.1 k y hk hy ez with z | z
  · exact h2 z
  · omega
theorem q_at (h : RR n B KMv K j t w q e 24 x0 g u v) (hy : y < j) (h1 : sA v 4 y = 1) : ∃ k, k < q ∧ sA v 11 k = iN y ∧ scan (fun i => decide (sA v 11 i = iN y)) q 0 = iN k := by
  have ip := RR_ip h
  have hj := ip.1.1
  obtain ⟨k, hk, ek⟩ := ip.2.2.2.2.2.2.1 y hy (by omega) h1
  refine ⟨k, hk, ek, scan_at hk (decide_eq_true ek) (fun m hm em => ?_)⟩
  exact h.2.2.2.2.2.2.2.2.2.2.2.1.2 m k hm hk ((of_decide_eq_true em).trans ek.symm)
theorem b_at (h : RR n B KMv K j 0 w q e x x0 g u v) (hy : y < j) (h2 : sA v 4 y = 2) : ∃ k, k < w ∧ sA v 9 k = iN y ∧ scan (fun i => decide (sA v 9 i = iN y)) w 0 = iN k := by
  have ip := RR_ip h
  have hj := ip.1.1
  rcases ip.2.2.2.2.2.2.2.1 y hy h2 with ⟨k, hk, ek⟩ | ⟨f', hf, _⟩
  · refine ⟨k, hk, ek, scan_at hk (decide_eq_true ek) (fun m hm em => ?_)⟩
    have em' := of_decide_eq_true em
    exact h.2.2.2.2.2.2.2.2.2.2.2.2.1.2 m k hm hk (by rw [em']; exact iN_nneg (by omega)) (em'.trans ek.symm)
  · omega
theorem j_cancel {a1 b : Int32} (hn : n ≤ 1000000000) (h : RR n B KMv K j 0 w q e 24 24 60 u v) (hE : vE v) : JA f (fun post => wpL_cancel K post u f a1 b) (fun post => wpM6_cancel KMv post v a1 b) (JR n B KMv K j) := by
  unfold wpL_cancel wpX0_cancel
  have ip := RR_ip h
  have hj := ip.1.1
  have hw := ip.1.2.1
  have hq := ip.1.2.2.1
  have e1 := ip.2.1.1
  rcases num3 hj a1 with hA | ⟨h0, h1, hB⟩ | ⟨i, hi, ei⟩
  · exact JA_no (c := 1) (r := 0) (u' := u) (v' := tI (tI v 0 0) 0 1) (by decide) (fun post k => e_knownA hA (Or.inl ⟨rfl, k⟩)) (fun post k => fun u1 e1' => by subst e1'; exact f_outA hA ⟨fun z => absurd z (by decide), fun _ => f_fail k⟩) rfl ⟨w, q, e, RR_i0 (RR_i0 h), hE⟩
  · refine JA_no (c := 2) (r := 0) (u' := u) (v' := tI (tI v 0 0) 0 2) (by decide) (fun post k => e_knownB h.1 h0 h1 hB (Or.inr (Or.inl ⟨rfl, k⟩))) (fun post k => fun u1 e1' => by subst e1'; exact f_outB h0 h1 ⟨fun _ => ⟨fun z => absurd z (not_lt_j e1 hB), fun _ => f_fail k⟩, fun z => absurd rfl z⟩) rfl ⟨w, q, e, RR_i0 (RR_i0 h), hE⟩
  subst ei
  have mi := (h.1.2 i hi).2.1
  have s0 : sA u 0 (aA K i) = sA v 4 i := h.2.2.2.1 i hi
  have lt : iN i < sI v 1 := by rw [e1]; exact (iN_lt (by omega) (by omega)).mpr hi
  have vi : vp_in (iN i) 24 := iN_in (by omega) (by omega)
  have ni : (iN i).toNatClampNeg = i := iN_nat (by omega)
  have hh := RR_i0 (s := 0) h
  by_cases c2 : 2 < sA v 4 i
  case pos =>
    refine JA_no (c := 3) (r := 0) (u' := u) (v' := tI (tI v 0 0) 0 3) (by decide) (fun post k => e_knownC h.1 hj hi ⟨aA K i, rfl, mi, fun x5 e5 => ?_⟩) (fun post k => fun u1 e1' => by
      subst e1'
      refine f_outC (by omega) ⟨fun _ => ⟨fun _ => ⟨vi, fun x6 e6 => ?_⟩, fun z => absurd lt z⟩, fun z => absurd rfl z⟩
      rw [ni] at e6
      have e6' : x6 = sA v 4 i := e6
      rw [e6']
      exact ⟨fun _ => f_fail k, fun z => absurd c2 z⟩) rfl ⟨w, q, e, RR_i0 (RR_i0 h), hE⟩
    rw [e5, s0]
    exact ⟨fun _ => Or.inr (Or.inr ⟨rfl, k⟩), fun z => absurd c2 z⟩
  case neg =>
  by_cases s2 : sA v 4 i = 2
  case neg =>
    by_cases s1 : sA v 4 i = 1
    case neg =>
      -- it is NEW
      have hS : RR n B KMv K j 0 w q e 24 24 60 (tA u 0 (aA K i) 5) (tA (tI v 0 0) 4 i 5) := RR_st hh hi (by decide) (IP_st (RR_ip hh) hi (by decide) (fun z => absurd z (by decide)) (fun z => absurd z (by decide))) (fun k hk ez => absurd ez (no_q hh hi s1 k hk)) (fun k hk ez => absurd ez (no_b hh hi s2 k hk))
      obtain ⟨u', v', w', e', gx, gm, gR, gE, g0, g1⟩ := j_end hS
      refine JA_ok (r := sA v 4 i) (u' := u') (v' := v') (fun post k => e_knownC h.1 hj hi ⟨aA K i, rfl, mi, fun x5 e5 => ?_⟩) (fun post k => fun u1 e1' => by
        subst e1'
        refine f_outC (by omega) ⟨fun _ => ⟨fun _ => ⟨vi, fun x6 e6 => ?_⟩, fun z => absurd lt z⟩, fun z => absurd rfl z⟩
        rw [ni] at e6
        have e6' : x6 = sA v 4 i := e6
        rw [e6', ni]
        exact ⟨fun z => absurd z c2, fun _ => ⟨fun _ => ⟨vi, fun u11 e11 => by subst e11; exact ⟨fun _ => ⟨fun _ => gm _ _ k, fun z => absurd z s2⟩, fun z => absurd z s1⟩⟩, fun z => absurd z s2⟩⟩) g0 ⟨w', q, e', gR, gE⟩
      rw [e5, s0]
      exact ⟨fun z => absurd z c2, fun _ => ⟨fun _ u8 e8 => by subst e8; exact ⟨fun _ => ⟨fun _ => gx _ k, fun z => absurd z s2⟩, fun z => absurd z s1⟩, fun z => absurd z s2⟩⟩
    case pos =>
      -- it is QUEUED
      obtain ⟨k0, hk0, ek0, esc⟩ := q_at hh hi s1
      have hD := RR_deq hh hk0 hi ek0
      have hno := deq_no hh.2.2.2.2.2.2.2.2.2.2.2.1 hk0 ek0
      have hS := RR_st (s := 5) hD hi (by decide) (IP_st (RR_ip hD) hi (by decide) (fun z => absurd z (by decide)) (fun z => absurd z (by decide))) (fun k hk ez => absurd ez (hno k hk)) (fun k hk ez => absurd ez (no_b hh hi s2 k hk))
      have hS2 := RR_x hS (Or.inl (by rw [tA_eq]; decide))
      obtain ⟨u', v', w', e', gx, gm, gR, gE, g0, g1⟩ := j_end hS2
      have e4u : sI u 4 = iN q := h.2.2.1.2.1
      have e6v : sI v 6 = iN q := ip.2.1.2.2.1
      refine JA_ok (r := sA v 4 i) (u' := u') (v' := v') (fun post k => e_knownC h.1 hj hi ⟨aA K i, rfl, mi, fun x5 e5 => ?_⟩) (fun post k => fun u1 e1' => by
        subst e1'
        refine f_outC (by omega) ⟨fun _ => ⟨fun _ => ⟨vi, fun x6 e6 => ?_⟩, fun z => absurd lt z⟩, fun z => absurd rfl z⟩
        rw [ni] at e6
        have e6' : x6 = sA v 4 i := e6
        rw [e6', ni]
        refine ⟨fun z => absurd z c2, fun _ => ⟨fun _ => ⟨vi, fun u11 e11 => ?_⟩, fun z => absurd z s2⟩⟩
        subst e11
        refine ⟨fun z => absurd s1 z, fun _ => f_placeInQueue hq e6v ?_⟩
        show wpM6_dequeue KMv _ (tA (tI v 0 0) 4 i 5) (scan (fun i' => decide (sA (tI v 0 0) 11 i' = iN i)) q 0)
        rw [esc]
        refine f_dequeue (v := tA (tI v 0 0) 4 i 5) hq e6v hk0 ?_
        rw [mDq_st]
        exact ⟨fun _ => gm _ _ k, fun z => absurd z s2⟩) g0 ⟨w', q - 1, e', gR, gE⟩
      rw [e5, s0]
      refine ⟨fun z => absurd z c2, fun _ => ⟨fun _ u8 e8 => ?_, fun z => absurd z s2⟩⟩
      subst e8
      refine ⟨fun z => absurd s1 z, fun _ => e_linePlace hq e4u ?_⟩
      have esu := (j_scanQ hh hi).trans esc
      show wpX2_removeAt K _ (tA u 0 (aA K i) 5) (scan (fun i' => decide (sQ u 1 i' = some (aA K i))) q 0)
      rw [esu]
      exact e_lineRemove (u := tA u 0 (aA K i) 5) hq e4u hk0 (show ∀ i', i' < q → ∀ y, sQ u 1 i' = some y → y ∈ K.2.2.1 from RR_mem h) ⟨fun _ => gx _ k, fun z => absurd z s2⟩
  case pos =>
  by_cases cb : b = 0
  case pos =>
    refine JA_no (c := 3) (r := 0) (u' := u) (v' := tI (tI v 0 0) 0 3) (by decide) (fun post k => e_knownC h.1 hj hi ⟨aA K i, rfl, mi, fun x5 e5 => ?_⟩) (fun post k => fun u1 e1' => by
      subst e1'
      refine f_outC (by omega) ⟨fun _ => ⟨fun _ => ⟨vi, fun x6 e6 => ?_⟩, fun z => absurd lt z⟩, fun z => absurd rfl z⟩
      rw [ni] at e6
      have e6' : x6 = sA v 4 i := e6
      rw [e6']
      exact ⟨fun z => absurd z c2, fun _ => ⟨fun z => absurd s2 z, fun _ => ⟨fun z => absurd cb z, fun _ => f_fail k⟩⟩⟩) rfl ⟨w, q, e, RR_i0 (RR_i0 h), hE⟩
    rw [e5, s0]
    exact ⟨fun z => absurd z c2, fun _ => ⟨fun z => absurd s2 z, fun _ => ⟨fun z => absurd cb z, fun _ => Or.inr (Or.inr ⟨rfl, k⟩)⟩⟩⟩
  case neg =>
  -- it is RUNNING
  have s1 : ¬ sA v 4 i = 1 := by rw [s2]; decide
  obtain ⟨k0, hk0, ek0, esc⟩ := b_at hh hi s2
  have hS := RR_st (s := 5) (RR_x0' (x0 := i) hh) hi (by decide) (IP_st (RR_ip hh) hi (by decide) (fun z => absurd z (by decide)) (fun z => absurd z (by decide))) (fun k hk ez => absurd ez (no_q hh hi s1 k hk)) (fun k hk ez => Or.inr rfl)
  obtain ⟨u2, v2, q2, tx, tm, tR, _, _, _, t0, _⟩ := j_takeNext hS hn hk0 hi ek0 (by rw [tA_eq]; decide) (by rw [tA_eq]; decide)
  obtain ⟨u', v', w', e', gx, gm, gR, gE, g0, g1⟩ := j_end tR
  have e2u : sI u 2 = iN w := h.2.2.1.1
  have e3 := ip.2.1.2.1
  have rp := h.2.2.2.2.2.2.2.1
  refine JA_ok (r := sA v 4 i) (u' := u') (v' := v') (fun post k => e_knownC h.1 hj hi ⟨aA K i, rfl, mi, fun x5 e5 => ?_⟩) (fun post k => fun u1 e1' => by
    subst e1'
    refine f_outC (by omega) ⟨fun _ => ⟨fun _ => ⟨vi, fun x6 e6 => ?_⟩, fun z => absurd lt z⟩, fun z => absurd rfl z⟩
    rw [ni] at e6
    have e6' : x6 = sA v 4 i := e6
    rw [e6', ni]
    refine ⟨fun z => absurd z c2, fun _ => ⟨fun z => absurd s2 z, fun _ => ⟨fun _ => ⟨vi, fun u36 e36 => ?_⟩, fun z => absurd z cb⟩⟩⟩
    subst e36
    refine ⟨fun _ => ⟨fun z => absurd s2 z, fun _ => f_workerOf hw e3 ?_⟩, fun z => absurd z s1⟩
    show wpM6_takeNext KMv _ (tA (tI v 0 0) 4 i 5) (scan (fun i' => decide (sA (tI v 0 0) 9 i' = iN i)) w 0)
    rw [esc]
    exact tm _ (gm _ _ k)) (g0.trans t0) ⟨w', q2, e', gR, gE⟩
  rw [e5, s0]
  refine ⟨fun z => absurd z c2, fun _ => ⟨fun z => absurd s2 z, fun _ => ⟨fun _ u37 e37 => ?_, fun z => absurd z cb⟩⟩⟩
  subst e37
  have esu := (j_scanW hh hi).trans esc
  refine ⟨fun _ => ⟨fun z => absurd s2 z, fun _ => e_placeOf (u := tA u 0 (aA K i) 5) hw e2u (fun i' hi' => rp.1 i' (by omega)) ?_⟩, fun z => absurd z s1⟩
  show wpX1_at K _ (tA u 0 (aA K i) 5) (scan (fun i' => decide (sQ u 4 (aW u i') = some (aA K i))) w 0)
  rw [esu]
  refine e_at hw e2u hk0 ?_
  show wpX0_freeWorker K _ (tA u 0 (aA K i) 5) (sQ u 0 k0)
  rw [(rp.1 k0 (by omega)).1]
  exact tx _ (gx _ k)
end CAN
