/-! the reference's small methods -/
section MS
variable {n : Int} {K : KM} {j t w q e x g : Nat} {v : gS}
theorem iN_neg {i : Nat} (hi : i < 2147483648) {s : Int32} (h : s < 0) (e : s = iN i) : False := by rw [e] at h; exact iN_nneg hi h
theorem m_fail {post : Int32 → gS → Prop} {p1 : Int32} (k : post 0 (tI v 0 p1)) : wpM6_fail K post v p1 := fun u1 e1 => by subst e1; exact k
theorem m_out {post : Int32 → gS → Prop} {p1 p2 : Int32} (k1 : (p1 < 0 ∨ ¬ p1 < p2) → post 1 v) (k0 : 0 ≤ p1 → p1 < p2 → post 0 v) : wpM6_out K post v p1 p2 :=
  ⟨fun h => ⟨rfl, k1 (Or.inl h)⟩, fun h => ⟨fun h2 => ⟨rfl, k0 (Int32.not_lt.mp h) h2⟩, fun h2 => ⟨rfl, k1 (Or.inr h2)⟩⟩⟩
theorem m_countBusy {post : Int32 → gS → Prop} (hw : w ≤ 5) (ew : sI v 3 = iN w) (k : ∀ r, (r = 0 → ∀ i, i < w → sA v 9 i < 0) → post r v) : wpM6_countBusy K post v := by
  have key : ∀ d i c, i + d = w → c ≤ i → (c = 0 → ∀ k, k < i → sA v 9 k < 0) → wpM6_countBusy_4 K post (d + 1) (iN c) (iN i) v := by
    intro d
    induction d with
    | zero =>
      intro i c hi hc h
      refine ⟨fun _ => k _ (fun e0 a ha => h ((iN_inj (b := 0) (by omega) (by omega)).mp e0) a (by omega)), fun hh => ?_⟩
      rw [ew] at hh
      have := x_c0 (by omega) (by omega) hh; omega
    | succ d ih =>
      intro i c hi hc h
      refine ⟨fun hh => ?_, fun _ => ⟨iN_in (by omega) (by omega), fun hb x3 e3 x4 e4 => ?_, fun hb x5 e5 x6 e6 => ?_⟩⟩
      · rw [ew] at hh
        have := (iN_le (by omega) (by omega)).mp hh; omega
      · rw [iN_nat (by omega)] at hb
        rw [e3, e4, iN_succ, Int32.add_zero]
        refine ih (i + 1) c (by omega) (by omega) (fun e0 a ha => ?_)
        by_cases hai : a = i
        · rw [hai]; exact hb
        · exact h e0 a (by omega)
      · rw [e5, e6, iN_succ, iN_succ]
        exact ih (i + 1) (c + 1) (by omega) (by omega) (fun e0 => by omega)
  exact ⟨w + 1, key w 0 0 (by omega) (by omega) (fun _ a ha => by omega)⟩
theorem m_end {post : Int32 → gS → Prop} {p1 : Int32} (hI : IP n j 0 w q e 24 g v) (k : ∀ v' w' e', IP n j 0 w' q e' 24 g v' → sI v' 0 = sI v 0 → post p1 v') : wpM6_end K post v p1 := by
  refine ⟨fun _ => k v w e hI rfl, fun _ => ⟨fun _ => k v w e hI rfl, fun _ => m_countBusy hI.1.2.1 hI.2.1.2.1 (fun r hr => ⟨fun _ => k v w e hI rfl, fun r0 u6 e6 u7 e7 u8 e8 => ?_⟩)⟩⟩
  subst e6 e7 e8
  obtain ⟨a, ⟨b1, b3, b6, b7, b10⟩, c, d, f, gx, k1, k2, k0, kt, kc, kd⟩ := hI
  refine k _ 0 0 ⟨⟨a.1, by omega, a.2.2.1, by omega⟩, ⟨b1, rfl, b6, rfl, b10⟩, fun i hi => by omega, d, fun i hi => by omega, gx, k1, fun i hi e2 => ?_, k0, kt, kc, kd⟩ rfl
  have hj := a.1
  rcases k2 i hi e2 with ⟨k', hk, ek⟩ | ⟨f', hf, _⟩
  · exact (iN_neg (by omega) (hr r0 k' hk) ek).elim
  · omega
def mWork (v : gS) (k y : Nat) : gS := tA (tA (tA v 9 k (iN y)) 10 k (sA (tA v 9 k (iN y)) 3 y)) 4 y 2
theorem m_work {post : gS → Prop} {k y : Nat} (hk : k < 8) (hy : y < 24) (kk : post (mWork v k y)) : wpM6_work K post v (iN k) (iN y) := by
  refine ⟨iN_in hk (by omega), fun u1 e1 => ⟨iN_in hy (by omega), iN_in hk (by omega), fun u2 e2 => ⟨iN_in hy (by omega), fun u3 e3 => ?_⟩⟩⟩
  rw [iN_nat (by omega)] at e1 e2 e3
  rw [iN_nat (by omega)] at e2
  subst e1 e2 e3
  exact kk
theorem IP_work {k y : Nat} (hI : IP n j t w q e x g v) (hk : k < w) (hy : y < j) (ho : ∀ i, i < j → sA v 9 k = iN i → sA v 4 i ≠ 2) (h0 : sA v 4 y = 0 ∨ t = 0) : IP n j t w q e x g (mWork v k y) := by
  have h1 : IP n j t w q e x g (tA v 9 k (iN y)) := IP_bu hI (Or.inr ⟨y, hy, rfl⟩) ho
  refine IP_st (IP_a10 h1) hy (by decide) (fun h => absurd h (by decide)) (fun _ => ⟨Or.inl ⟨k, hk, ?_⟩, h0⟩)
  show sA (tA v 9 k (iN y)) 9 k = iN y
  exact tA_eq
def mNewB (v : gS) (w : Nat) : gS := tI (tI (tA v 8 w (sI v 4)) 4 (sI v 4 + 1)) 3 (iN (w + 1))
theorem m_newWorker {post : gS → Prop} {y : Nat} (ew : sI v 3 = iN w) (hw : w < 8) (hy : y < 24) (k1 : post (mWork (mNewB v w) w y)) (k2 : post (mWork (tI (mNewB v w) 5 (iN (w + 1))) w y)) : wpM6_newWorker K post v (iN y) := by
  refine ⟨by rw [ew]; exact iN_in hw (by omega), fun u1 e1 u2 e2 u3 e3 => ?_⟩
  rw [ew, iN_nat (by omega)] at e1
  have e3' : u3 = mNewB v w := by
    subst e1 e2 e3
    show tI (tI (tA v 8 w (sI v 4)) 4 (sI v 4 + 1)) 3 (sI v 3 + 1) = _
    rw [ew, iN_succ]; rfl
  have h3 : sI u3 3 = iN (w + 1) := by rw [e3']; rfl
  refine ⟨fun _ => ?_, fun _ u7 e7 => ?_⟩
  · rw [h3, iN_pred (by omega), e3']
    exact m_work (by omega) hy k1
  · rw [h3] at e7
    have h7 : sI u7 3 = iN (w + 1) := by rw [e7]; exact h3
    rw [h7, iN_pred (by omega), e7, e3']
    exact m_work (by omega) hy k2
theorem IP_new {y : Nat} (hI : IP n j t w q e x g v) (hw : w < 5) (hy : y < j) (h0 : sA v 4 y = 0 ∨ t = 0) : IP n j t (w + 1) q e x g (mWork (mNewB v w) w y) := by
  obtain ⟨a, ⟨b1, b3, b6, b7, b10⟩, c, d, f, gx, k1, k2, k0, kt, kc, kd⟩ := hI
  have hj := a.1
  have hb : IP n j t (w + 1) q e x g (tA (mNewB v w) 9 w (iN y)) := by
    refine ⟨⟨a.1, by omega, a.2.2.1, a.2.2.2⟩, ⟨b1, rfl, b6, b7, b10⟩, fun i hi => ?_, d, f, gx, k1, fun i hi e2 => ?_, k0, kt, kc, kd⟩
    · by_cases hiw : i = w
      · rw [hiw, tA_eq]; exact Or.inr ⟨y, hy, rfl⟩
      · rw [tA_ne hiw]; exact c i (by omega)
    · rcases k2 i hi e2 with ⟨k', hk, ek⟩ | hf
      · exact Or.inl ⟨k', by omega, by rw [tA_ne (by omega)]; exact ek⟩
      · exact Or.inr hf
  refine IP_st (IP_a10 hb) hy (by decide) (fun h => absurd h (by decide)) (fun _ => ⟨Or.inl ⟨w, by omega, ?_⟩, h0⟩)
  show sA (tA (mNewB v w) 9 w (iN y)) 9 w = iN y
  exact tA_eq
theorem IP_new5 {y : Nat} (hI : IP n j t w q e x g v) (hw : w < 5) (hy : y < j) (h0 : sA v 4 y = 0 ∨ t = 0) : IP n j t (w + 1) q e x g (mWork (tI (mNewB v w) 5 (iN (w + 1))) w y) := IP_new hI hw hy h0
def mRest (v : gS) (k : Nat) : gS := tB (tA (tA v 9 k (-1)) 10 k 0) 0 k (sD v 0)
theorem m_rest {post : gS → Prop} {k : Nat} (hk : k < 8) (kk : post (mRest v k)) : wpM6_rest K post v (iN k) := by
  refine ⟨iN_in hk (by omega), fun u1 e1 => ⟨iN_in hk (by omega), fun u2 e2 => ⟨iN_in hk (by omega), fun u3 e3 => ?_⟩⟩⟩
  rw [iN_nat (by omega)] at e1 e2 e3
  subst e1 e2 e3
  exact kk
theorem IP_rest {k : Nat} (hI : IP n j t w q e x g v) (ho : ∀ i, i < j → sA v 9 k = iN i → sA v 4 i ≠ 2) : IP n j t w q e x g (mRest v k) :=
  IP_b0 (IP_a10 (IP_bu hI (Or.inl (by decide)) ho)) hI.2.2.2.2.2.2.2.2.2.2.2.1
def mEnq (v : gS) (q y : Nat) : gS := tA (tI (tB (tA v 11 q (iN y)) 1 q (sD v 0)) 6 (iN (q + 1))) 4 y 1
theorem m_enqueue {post : gS → Prop} {y : Nat} (eq : sI v 6 = iN q) (hq : q < 8) (hy : y < 24) (k : post (mEnq v q y)) : wpM6_enqueue K post v (iN y) := by
  refine ⟨by rw [eq]; exact iN_in hq (by omega), fun u1 e1 => ?_⟩
  rw [eq, iN_nat (by omega)] at e1
  subst e1
  have e' : sI (tA v 11 q (iN y)) 6 = iN q := eq
  refine ⟨by rw [e']; exact iN_in hq (by omega), fun u2 e2 u3 e3 => ⟨iN_in hy (by omega), fun u4 e4 => ?_⟩⟩
  rw [e', iN_nat (by omega)] at e2
  subst e2
  have e'' : sI (tB (tA v 11 q (iN y)) 1 q (sD (tA v 11 q (iN y)) 0)) 6 = iN q := eq
  rw [e'', iN_succ] at e3
  rw [iN_nat (by omega)] at e4
  subst e3 e4
  exact k
theorem IP_enq {y : Nat} (hI : IP n j t w q e x g v) (hq : q < 4) (hy : y < j) : IP n j t w (q + 1) e x g (mEnq v q y) := by
  have hd := hI.2.2.2.2.2.2.2.2.2.2.2
  obtain ⟨a, ⟨b1, b3, b6, b7, b10⟩, c, d, f, gx, k1, k2, k0, kt, kc, kd⟩ := hI
  have hb : IP n j t w (q + 1) e x g (tI (tB (tA v 11 q (iN y)) 1 q (sD v 0)) 6 (iN (q + 1))) := by
    refine ⟨⟨a.1, a.2.1, by omega, a.2.2.2⟩, ⟨b1, b3, rfl, b7, b10⟩, c, fun i hi => ?_, f, gx, fun i hi hx e1 => ?_, k2, k0, kt, kc, hd.1, hd.2.1, hd.2.2.1, g_B (u := tA v 11 q (iN y)) hd.2.2.2.1 hd.1, hd.2.2.2.2⟩
    · show ∃ b, b < j ∧ sA (tA v 11 q (iN y)) 11 i = iN b
      by_cases hiq : i = q
      · rw [hiq, tA_eq]; exact ⟨y, hy, rfl⟩
      · rw [tA_ne hiq]; exact d i (by omega)
    · obtain ⟨k', hk, ek⟩ := k1 i hi hx e1
      refine ⟨k', by omega, ?_⟩
      show sA (tA v 11 q (iN y)) 11 k' = iN i
      rw [tA_ne (by omega)]; exact ek
  refine IP_st hb hy (by decide) (fun _ => ⟨q, by omega, ?_⟩) (fun h => absurd h (by decide))
  show sA (tA v 11 q (iN y)) 11 q = iN y
  exact tA_eq
/-- alike but for the queue -/
def AgQ (n : Int) (v u : gS) : Prop := (∀ m, m ≠ 6 → sI u m = sI v m) ∧ (∀ m, sD u m = sD v m) ∧ (∀ m k, m ≠ 11 → sA u m k = sA v m k) ∧ (∀ m k, m ≠ 1 → sB u m k = sB v m k) ∧ (∀ k, dB n (sB u 1 k))
theorem m_dequeue {post : Int32 → gS → Prop} {a : Nat} (hI : IP n j t w q e 24 g v) (ha : a < q) (k : ∀ b v', b < j → sA v 11 a = iN b → IP n j t w (q - 1) e b g v' → AgQ n v v' → post (iN b) v') : wpM6_dequeue K post v (iN a) := by
  obtain ⟨bb, ⟨b1, b3, b6, b7, b10⟩, c, d, f, gx, k1, k2, k0, kt, kc, kd⟩ := id hI
  have hq := bb.2.2.1
  have hj := bb.1
  obtain ⟨b, hb, eb⟩ := d a ha
  refine ⟨iN_in (by omega) (by omega), fun x1 e1 u2 e2 => ?_⟩
  rw [iN_nat (by omega), eb] at e1
  rw [b6, iN_pred (by omega)] at e2
  have key : ∀ dd i u, i + dd = q - 1 → a ≤ i → sI u 6 = iN (q - 1) → AgQ n v u → (∀ k, k < a → sA u 11 k = sA v 11 k) → (∀ k, a ≤ k → k < i → sA u 11 k = sA v 11 (k + 1)) → (∀ k, i ≤ k → sA u 11 k = sA v 11 k) → wpM6_dequeue_19 K post (dd + 1) (iN a) x1 (iN i) u := by
    intro dd
    induction dd with
    | zero =>
      intro i u hi hai e6 ag h1 h2 h3
      refine ⟨fun _ => ?_, fun hh => ?_⟩
      · rw [e1]
        have e4 : sA u 4 = sA v 4 := funext (fun z => ag.2.2.1 4 z (by decide))
        refine k b u hb eb ⟨⟨bb.1, bb.2.1, by omega, bb.2.2.2⟩, ⟨(ag.1 1 (by decide)).trans b1, (ag.1 3 (by decide)).trans b3, e6, (ag.1 7 (by decide)).trans b7, (ag.1 10 (by decide)).trans b10⟩, fun i' hi' => ?_, fun i' hi' => ?_, fun i' hi' => ?_, fun i' hi' => ?_, fun i' hi' hx e1' => ?_, fun i' hi' e2' => ?_, fun i' hi' => ?_, fun f' hf => ?_, ?_, ?_⟩ ag
        · rw [ag.2.2.1 9 i' (by decide)]; exact c i' hi'
        · by_cases hk : i' < a
          · rw [h1 i' hk]; exact d i' (by omega)
          · rw [h2 i' (by omega) (by omega)]; exact d (i' + 1) (by omega)
        · rw [ag.2.2.1 12 i' (by decide)]; exact f i' hi'
        · rw [ag.2.2.1 5 i' (by decide)]; exact gx i' hi'
        · rw [e4] at e1'
          obtain ⟨k', hk, ek⟩ := k1 i' hi' (by omega) e1'
          by_cases hka : k' < a
          · exact ⟨k', by omega, by rw [h1 k' hka]; exact ek⟩
          · by_cases hke : k' = a
            · exfalso
              rw [hke, eb] at ek
              exact hx ((iN_inj (by omega) (by omega)).mp ek).symm
            · exact ⟨k' - 1, by omega, by rw [h2 (k' - 1) (by omega) (by omega), show k' - 1 + 1 = k' by omega]; exact ek⟩
        · rw [e4] at e2'
          rcases k2 i' hi' e2' with ⟨k', hk, ek⟩ | ⟨f', hf, ef⟩
          · exact Or.inl ⟨k', hk, by rw [ag.2.2.1 9 k' (by decide)]; exact ek⟩
          · exact Or.inr ⟨f', hf, by rw [ag.2.2.1 13 f' (by decide)]; exact ef⟩
        · rw [e4]; exact k0 i' hi'
        · obtain ⟨b', hb', q1, q2, q3, q4⟩ := kt f' hf
          refine ⟨b', hb', by rw [ag.2.2.1 13 f' (by decide)]; exact q1, by rw [e4]; exact q2, ?_, ?_⟩
          · rw [ag.2.2.1 14 f' (by decide), ag.2.2.1 1 b' (by decide)]; exact q3
          · rw [ag.2.2.1 14 f' (by decide), e4]; exact q4
        · unfold mC; rw [e4]; exact kc
        · refine ⟨by rw [ag.2.1]; exact kd.1, by rw [ag.2.1]; exact kd.2.1, fun z => by rw [ag.2.2.2.1 0 z (by decide)]; exact kd.2.2.1 z, ag.2.2.2.2, fun z => by rw [ag.2.2.2.1 2 z (by decide)]; exact kd.2.2.2.2.1 z, fun z => by rw [ag.2.2.2.1 3 z (by decide)]; exact kd.2.2.2.2.2 z⟩
      · rw [e6] at hh
        have := x_c0 (by omega) (by omega) hh; omega
    | succ dd ih =>
      intro i u hi hai e6 ag h1 h2 h3
      have hs : vp_in (iN i + 1) 8 := by rw [iN_succ]; exact iN_in (by omega) (by omega)
      have hz : vp_in (iN i) 8 := iN_in (by omega) (by omega)
      refine ⟨fun hh => ?_, fun _ => ⟨hs, hz, fun u4 e4 => ⟨hs, hz, fun u5 e5 x6 e6' => ?_⟩⟩⟩
      · rw [e6] at hh
        have := (iN_le (by omega) (by omega)).mp hh; omega
      · rw [iN_succ, iN_nat (by omega), iN_nat (by omega)] at e4 e5
        subst e4 e5
        rw [e6', iN_succ]
        refine ih (i + 1) _ (by omega) (by omega) e6 ⟨ag.1, ag.2.1, fun m z hm => ?_, fun m z hm => ?_, ?_⟩ (fun z hz' => ?_) (fun z hz1 hz2 => ?_) (fun z hz' => ?_)
        · show sA (tA u 11 i (sA u 11 (i + 1))) m z = sA v m z
          rw [tA_ot hm]; exact ag.2.2.1 m z hm
        · rw [sB_tB, if_neg hm]; exact ag.2.2.2.1 m z hm
        · exact g_B (u := tA u 11 i (sA u 11 (i + 1))) ag.2.2.2.2 (ag.2.2.2.2 _)
        · show sA (tA u 11 i (sA u 11 (i + 1))) 11 z = _
          rw [tA_ne (by omega)]; exact h1 z hz'
        · show sA (tA u 11 i (sA u 11 (i + 1))) 11 z = _
          by_cases hzi : z = i
          · rw [hzi, tA_eq]; exact h3 (i + 1) (by omega)
          · rw [tA_ne hzi]; exact h2 z hz1 (by omega)
        · show sA (tA u 11 i (sA u 11 (i + 1))) 11 z = _
          rw [tA_ne (by omega)]; exact h3 z (by omega)
  subst e2
  exact ⟨_, key (q - 1 - a) a (tI v 6 (iN (q - 1))) (by omega) (Nat.le_refl _) rfl ⟨fun m hm => by rw [sI_tI, if_neg hm], fun _ => rfl, fun _ _ _ => rfl, fun _ _ _ => rfl, kd.2.2.2.1⟩ (fun _ _ => rfl) (fun z h1 h2 => by omega) (fun _ _ => rfl)⟩
theorem m_fetch {post : Int32 → gS → Prop} (hn : n ≤ 1000000000) (hI : IP n j t w q e 24 g v) (k0 : post (-1) v) (k : ∀ b v', b < j → 0 < q → IP n j t w (q - 1) e b g v' → (∀ m k, m ≠ 11 → sA v' m k = sA v m k) → (∀ m, m ≠ 6 → m ≠ 9 → sI v' m = sI v m) → post (iN b) v') : wpM6_fetch K post v := by
  have hd := hI.2.2.2.2.2.2.2.2.2.2.2
  refine ⟨fun h0 => ⟨iN_in (k := 0) (by omega) (by omega), ?_⟩, fun _ => k0⟩
  have h1 : dB (n + n) (FP.dsub (sD v 0) (sB v 1 (0 : Int32).toNatClampNeg)) := dB_sub hd.1 (hd.2.2.2.1 _) (by omega)
  have h2 : dN (FP.dadd (sD v 1) (FP.dsub (sD v 0) (sB v 1 (0 : Int32).toNatClampNeg))) := dN_add hd.2.1 (dB_fin (by omega) h1)
  refine ⟨dN_n64 h1.1, dN_n64 h2, fun u2 e2 u3 e3 => ?_⟩
  subst e2 e3
  have hq : 0 < q := by
    rcases Nat.eq_zero_or_pos q with z | z
    · exact absurd (by rw [hI.2.1.2.2.1, z]; rfl) h0
    · exact z
  refine m_dequeue (a := 0) (IP_i9 (IP_d1 hI h2)) hq (fun b v' hb _ hv ag => k b v' hb hq hv (fun m z hm => ag.2.2.1 m z hm) (fun m h6 h9 => ?_))
  rw [ag.1 m h6, sI_tI, if_neg h9]; rfl
theorem m_takeNext {post : gS → Prop} {k : Nat} (hn : n ≤ 1000000000) (hI : IP n j 0 w q e 24 g v) (hk : k < w) (ho : ∀ i, i < j → sA v 9 k = iN i → sA v 4 i ≠ 2) (kk : ∀ v' q', IP n j 0 w q' e 24 g v' → post v') : wpM6_takeNext K post v (iN k) := by
  have hj := hI.1.1
  have hw := hI.1.2.1
  refine m_fetch hn hI ⟨fun _ => m_rest (by omega) (kk _ q (IP_rest hI ho)), fun h => absurd (by decide) h⟩ (fun b v' hb hq hv ha _ => ⟨fun h => (iN_nneg (by omega) h).elim, fun _ => m_work (by omega) (by omega) (kk _ (q - 1) ?_)⟩)
  refine IP_x (x := b) (IP_work hv hk hb (fun i hi e9 => ?_) (Or.inr rfl)) (Or.inl ?_)
  · rw [ha 9 k (by decide)] at e9
    rw [ha 4 i (by decide)]
    exact ho i hi e9
  · show sA (mWork v' k b) 4 b ≠ 1
    unfold mWork
    rw [tA_eq]; decide
/-- alike but for the workers -/
def AgW (n : Int) (v u : gS) : Prop := (∀ m, m ≠ 3 → sI u m = sI v m) ∧ (∀ m, sD u m = sD v m) ∧ (∀ m k, m ≠ 8 → m ≠ 9 → m ≠ 10 → sA u m k = sA v m k) ∧ (∀ m k, m ≠ 0 → sB u m k = sB v m k) ∧ (∀ k, dB n (sB u 0 k))
theorem m_removeWorker {post : gS → Prop} {a : Nat} (hI : IP n j 0 w q e x g v) (ha : a < w) (ho : ∀ i, i < j → sA v 9 a = iN i → sA v 4 i ≠ 2) (k : ∀ v', IP n j 0 (w - 1) q e x g v' → AgW n v v' → post v') : wpM6_removeWorker K post v (iN a) := by
  obtain ⟨bb, ⟨b1, b3, b6, b7, b10⟩, c, d, f, gx, k1, k2, k0, kt, kc, kd⟩ := id hI
  have hw := bb.2.1
  intro u2 e2
  rw [b3, iN_pred (by omega)] at e2
  have key : ∀ dd i u, i + dd = w - 1 → a ≤ i → sI u 3 = iN (w - 1) → AgW n v u → (∀ k, k < a → sA u 9 k = sA v 9 k) → (∀ k, a ≤ k → k < i → sA u 9 k = sA v 9 (k + 1)) → (∀ k, i ≤ k → sA u 9 k = sA v 9 k) → wpM6_removeWorker_12 K post (dd + 1) (iN a) (iN i) u := by
    intro dd
    induction dd with
    | zero =>
      intro i u hi hai e6 ag h1 h2 h3
      refine ⟨fun _ => ?_, fun hh => ?_⟩
      · have e4 : sA u 4 = sA v 4 := funext (fun z => ag.2.2.1 4 z (by decide) (by decide) (by decide))
        refine k u ⟨⟨bb.1, by omega, bb.2.2.1, bb.2.2.2⟩, ⟨(ag.1 1 (by decide)).trans b1, e6, (ag.1 6 (by decide)).trans b6, (ag.1 7 (by decide)).trans b7, (ag.1 10 (by decide)).trans b10⟩, fun i' hi' => ?_, fun i' hi' => ?_, fun i' hi' => ?_, fun i' hi' => ?_, fun i' hi' hx e1' => ?_, fun i' hi' e2' => ?_, fun i' hi' => ?_, fun f' hf => by omega, ?_, ?_⟩ ag
        · by_cases hk : i' < a
          · rw [h1 i' hk]; exact c i' (by omega)
          · rw [h2 i' (by omega) (by omega)]; exact c (i' + 1) (by omega)
        · rw [ag.2.2.1 11 i' (by decide) (by decide) (by decide)]; exact d i' hi'
        · rw [ag.2.2.1 12 i' (by decide) (by decide) (by decide)]; exact f i' hi'
        · rw [ag.2.2.1 5 i' (by decide) (by decide) (by decide)]; exact gx i' hi'
        · rw [e4] at e1'
          obtain ⟨k', hk, ek⟩ := k1 i' hi' hx e1'
          exact ⟨k', hk, by rw [ag.2.2.1 11 k' (by decide) (by decide) (by decide)]; exact ek⟩
        · rw [e4] at e2'
          rcases k2 i' hi' e2' with ⟨k', hk, ek⟩ | ⟨f', hf, ef⟩
          · refine Or.inl ?_
            by_cases hka : k' < a
            · exact ⟨k', by omega, by rw [h1 k' hka]; exact ek⟩
            · by_cases hke : k' = a
              · exact absurd e2' (ho i' hi' (hke ▸ ek))
              · exact ⟨k' - 1, by omega, by rw [h2 (k' - 1) (by omega) (by omega), show k' - 1 + 1 = k' by omega]; exact ek⟩
          · omega
        · rw [e4]; exact k0 i' hi'
        · unfold mC; rw [e4]; exact kc
        · refine ⟨by rw [ag.2.1]; exact kd.1, by rw [ag.2.1]; exact kd.2.1, ag.2.2.2.2, fun z => by rw [ag.2.2.2.1 1 z (by decide)]; exact kd.2.2.2.1 z, fun z => by rw [ag.2.2.2.1 2 z (by decide)]; exact kd.2.2.2.2.1 z, fun z => by rw [ag.2.2.2.1 3 z (by decide)]; exact kd.2.2.2.2.2 z⟩
      · rw [e6] at hh
        have := x_c0 (by omega) (by omega) hh; omega
    | succ dd ih =>
      intro i u hi hai e6 ag h1 h2 h3
      have hs : vp_in (iN i + 1) 8 := by rw [iN_succ]; exact iN_in (by omega) (by omega)
      have hz : vp_in (iN i) 8 := iN_in (by omega) (by omega)
      refine ⟨fun hh => ?_, fun _ => ⟨hs, hz, fun u3 e3 => ⟨hs, hz, fun u4 e4 => ⟨hs, hz, fun u5 e5 => ⟨hs, hz, fun u6 e6' x7 e7 => ?_⟩⟩⟩⟩⟩
      · rw [e6] at hh
        have := (iN_le (by omega) (by omega)).mp hh; omega
      · rw [iN_succ, iN_nat (by omega), iN_nat (by omega)] at e3 e4 e5 e6'
        subst e3 e4 e5 e6'
        rw [e7, iN_succ]
        have s9 : ∀ z, sA (tA (tA u 8 i (sA u 8 (i + 1))) 9 i (sA (tA u 8 i (sA u 8 (i + 1))) 9 (i + 1))) 9 z = if z = i then sA u 9 (i + 1) else sA u 9 z := fun z => by
          rw [sA_tA, if_pos rfl, tA_ot (by decide), tA_ot (by decide)]
        refine ih (i + 1) _ (by omega) (by omega) e6 ⟨ag.1, ag.2.1, fun m z h8 h9 h10 => ?_, fun m z hm => ?_, ?_⟩ (fun z hz' => ?_) (fun z hz1 hz2 => ?_) (fun z hz' => ?_)
        · show sA (tA (tA (tA u 8 i _) 9 i _) 10 i _) m z = sA v m z
          rw [tA_ot h10, tA_ot h9, tA_ot h8]; exact ag.2.2.1 m z h8 h9 h10
        · rw [sB_tB, if_neg hm]; exact ag.2.2.2.1 m z hm
        · exact g_B (u := tA (tA (tA u 8 i _) 9 i _) 10 i _) ag.2.2.2.2 (ag.2.2.2.2 _)
        · show sA (tA (tA u 8 i (sA u 8 (i + 1))) 9 i (sA (tA u 8 i (sA u 8 (i + 1))) 9 (i + 1))) 9 z = _
          rw [s9, if_neg (by omega)]; exact h1 z hz'
        · show sA (tA (tA u 8 i (sA u 8 (i + 1))) 9 i (sA (tA u 8 i (sA u 8 (i + 1))) 9 (i + 1))) 9 z = _
          rw [s9]
          by_cases hzi : z = i
          · rw [if_pos hzi, hzi]; exact h3 (i + 1) (by omega)
          · rw [if_neg hzi]; exact h2 z hz1 (by omega)
        · show sA (tA (tA u 8 i (sA u 8 (i + 1))) 9 i (sA (tA u 8 i (sA u 8 (i + 1))) 9 (i + 1))) 9 z = _
          rw [s9, if_neg (by omega)]; exact h3 z (by omega)
  subst e2
  exact ⟨_, key (w - 1 - a) a (tI v 3 (iN (w - 1))) (by omega) (Nat.le_refl _) rfl ⟨fun m hm => by rw [sI_tI, if_neg hm], fun _ => rfl, fun _ _ _ _ _ => rfl, fun _ _ _ => rfl, kd.2.2.1⟩ (fun _ _ => rfl) (fun z h1 h2 => by omega) (fun _ _ => rfl)⟩
end MS
