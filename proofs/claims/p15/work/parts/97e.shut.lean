/-! class and reference: shut -/
/-- the class with another row of waiting jobs -/
def uL (u : gS) (F : Nat → Option Nat) (G : Nat → UInt64) (s : Int32) : gS := tI (fB (fQ u 1 F) 0 G) 4 s
section SHU
variable {n : Int} {B : Nat} {KMv : KM} {K : KX} {j t w q e x x0 g T y : Nat} {u v : gS} {f : Nat → Int64}
theorem iN_plus (a b : Nat) : iN a + iN b = iN (a + b) := (Int32.ofNat_add a b).symm
theorem RR_phase {s : Int32} (h : RR n B KMv K j t w q e x x0 g u v) : RR n B KMv K j t w q e x x0 g (tI u 0 s) (tI v 2 s) := by
  obtain ⟨rk, rs, rz, r0, r1, r2, r3, rp, rw_, rl, rt, vq, vb, vn, vz, ip⟩ := h
  exact ⟨rk, ⟨rfl, rs.2⟩, rz, r0, r1, r2, r3, rp, rw_, rl, rt, vq, vb, vn, vz, IP_i2 ip⟩
theorem RR_uL0 {F : Nat → Option Nat} {G : Nat → UInt64} (h : RR n B KMv K j t w 0 e x x0 g (uL u F G (iN 0)) v) : RR n B KMv K j t w 0 e x x0 g (tI u 4 0) v := by
  obtain ⟨rk, rs, rz, r0, r1, r2, r3, rp, rw_, rl, rt, vq, vb, vn, vz, ip⟩ := h
  exact ⟨rk, rs, ⟨rz.1, rfl, rz.2.2⟩, r0, r1, r2, r3, rp, rw_, fun i hi => by omega, rt, vq, vb, vn, vz, ip⟩
theorem uL_self (h : sI u 4 = iN q) : uL u (sQ u 1) (sB u 0) (iN q) = u := by
  unfold uL
  rw [fQ_self, fB_self, ← h, tI_same]
/-- all that wait are CANCELLED -/
theorem j_ca {q0 : Nat} (hq0 : q0 ≤ 4) : ∀ (d c : Nat) (u v : gS) (F : Nat → Option Nat) (G : Nat → UInt64), c + d = q0 → RR n B KMv K j 0 w d e 24 24 60 (uL u F G (iN d)) v → (∀ k, k < d → F k = sQ u 1 (c + k)) → sI u 4 = iN q0 →
    ∃ u' v', (∀ post : Int32 → gS → Prop, post (iN q0) u' → ∃ nn, wpX2_cancelAll_7 K post nn (iN q0) (iN c) u) ∧ (∀ (post : Int32 → gS → Prop) (l1 l2 : Int32), ¬ l1 = 0 → (∀ k25 : Int32 → Int32 → gS → Prop, ∃ n55, wpM6_shut_55 KMv post k25 n55 l1 (l2 + iN d) 0 v') → ∃ nn, wpM6_shut_25 KMv post nn l1 l2 v) ∧ RR n B KMv K j 0 w 0 e 24 24 60 u' v' ∧ sI v' 0 = sI v 0 := by
  intro d
  induction d with
  | zero =>
    intro c u v F G hc h hF e4
    have ip := RR_ip h
    refine ⟨tI u 4 0, v, fun post k => ⟨1, fun _ u3 e3 => by subst e3; exact k, fun z => absurd (by rw [e4, show c = q0 by omega]; exact Int32.le_refl _) z⟩, fun post l1 l2 hl k => ⟨1, fun z => absurd z hl, fun _ => ⟨fun _ => ?_, fun z => absurd (by rw [ip.2.1.2.2.1]; exact Int32.le_refl _) z⟩⟩, RR_uL0 h, rfl⟩
    obtain ⟨n55, h55⟩ := k (fun l1 l2 u => wpM6_shut_25 KMv post 0 l1 l2 u)
    rw [show l2 + iN 0 = l2 from Int32.add_zero l2] at h55
    exact ⟨n55, h55⟩
  | succ d ih =>
    intro c u v F G hc h hF e4
    have ip := RR_ip h
    have hj := ip.1.1
    have e6 := ip.2.1.2.2.1
    obtain ⟨b, hb, eb⟩ := ip.2.2.2.1 0 (by omega)
    have sb : sA v 4 b = 1 := h.2.2.2.2.2.2.2.2.2.2.2.1.1 0 b (by omega) hb eb
    have vq := h.2.2.2.2.2.2.2.2.2.2.2.1
    have hD := RR_deq h (show 0 < d + 1 by omega) hb eb
    have hno := deq_no vq (show 0 < d + 1 by omega) eb
    have hS := RR_st (s := 5) hD hb (by decide) (IP_st (RR_ip hD) hb (by decide) (fun z => absurd z (by decide)) (fun z => absurd z (by decide))) (fun k hk ez => absurd ez (hno k hk)) (fun k hk ez => absurd ez (no_b h hb (by rw [sb]; decide) k hk))
    have hS2 := RR_x hS (Or.inl (by rw [tA_eq]; decide))
    have hQ : sQ u 1 c = some (aA K b) := by
      have h1 := (h.2.2.2.2.2.2.2.2.2.1 0 (by omega)).1
      rw [eb, oJ_N (by omega)] at h1
      have h2 : F 0 = some (aA K b) := h1
      rw [← h2, hF 0 (by omega)]; rfl
    have mb := (h.1.2 b hb).2.1
    obtain ⟨u', v', gx, gm, gR, g0⟩ := ih (c + 1) (tA u 0 (aA K b) 5) _ (sh F 0 d) (sh G 0 d) (by omega) hS2 (fun k hk => by
      rw [sh_in (by omega) hk, hF (k + 1) (by omega), show c + (k + 1) = c + 1 + k by omega]; rfl) e4
    refine ⟨u', v', fun post k => ?_, fun post l1 l2 hl k => ?_, gR, g0⟩
    · obtain ⟨nn, hnn⟩ := gx post k
      refine ⟨nn + 1, fun z => ?_, fun _ => ⟨iN_in (by omega) (by omega), fun r4 e4' => ⟨aA K b, ?_, mb, fun u7 e7 x8 e8 => ?_⟩⟩⟩
      · rw [e4] at z
        have := (iN_le (by omega) (by omega)).mp z; omega
      · rw [e4', iN_nat (by omega), hQ]
      · rw [e7, e8, iN_succ]; exact hnn
    · obtain ⟨nn, hnn⟩ := gm post l1 (l2 + 1) hl (fun k25 => by
        have := k k25
        rw [show iN (d + 1) = 1 + iN d from by rw [show (1 : Int32) = iN 1 from rfl, iN_plus, show 1 + d = d + 1 by omega], ← Int32.add_assoc] at this
        exact this)
      refine ⟨nn + 1, fun z => absurd z hl, fun _ => ⟨fun z => ?_, fun _ => f_dequeue (a := 0) (q := d + 1) (by omega) e6 (by omega) ?_⟩⟩
      · rw [e6] at z
        have := (iN_le (b := 0) (by omega) (by omega)).mp z; omega
      · rw [eb]
        refine ⟨iN_in (by omega) (by omega), fun u21 e21 x22 e22 => ?_⟩
        rw [iN_nat (by omega)] at e21
        rw [e22, e21]
        exact hnn
/-- all that run are CANCELLED, their workers rest -/
theorem j_cc {tt : UInt64} : ∀ (d i c : Nat) (u v : gS), i + d = w → RR n B KMv K j 0 w q e 24 24 60 u v → sD u 0 = tt →
    ∃ c' u' v', (∀ post : Int32 → gS → Prop, post (iN (c + c')) u' → ∃ nn, wpX1_cancelAll_5 K post nn tt (iN c) (iN i) u) ∧ (∀ (post : Int32 → gS → Prop) (k25 : Int32 → Int32 → gS → Prop) (l1 l2 : Int32), ¬ l1 = 0 → wpM6_end KMv post v' (l2 + iN c') → ∃ nn, wpM6_shut_55 KMv post k25 nn l1 l2 (iN i) v) ∧ RR n B KMv K j 0 w q e 24 24 60 u' v' ∧ sI v' 0 = sI v 0 := by
  intro d
  induction d with
  | zero =>
    intro i c u v hi h ht
    have ip := RR_ip h
    have e3 := ip.2.1.2.1
    have e2u : sI u 2 = iN w := h.2.2.1.1
    refine ⟨0, u, v, fun post k => ⟨1, fun _ => k, fun z => absurd (by rw [e2u, show i = w by omega]; exact Int32.le_refl _) z⟩, fun post k25 l1 l2 hl k => ⟨1, fun z => absurd z hl, fun _ => ⟨fun _ => ?_, fun z => absurd (by rw [e3, show i = w by omega]; exact Int32.le_refl _) z⟩⟩, h, rfl⟩
    rw [show l2 + iN 0 = l2 from Int32.add_zero l2] at k
    exact k
  | succ d ih =>
    intro i c u v hi h ht
    have ip := RR_ip h
    have hj := ip.1.1
    have hw := ip.1.2.1
    have e3 := ip.2.1.2.1
    have e2u : sI u 2 = iN w := h.2.2.1.1
    have rp := h.2.2.2.2.2.2.2.1
    have rwi := h.2.2.2.2.2.2.2.2.1 i (by omega)
    have vi5 : vp_in (iN i) 5 := iN_in (by omega) (by omega)
    have vi8 : vp_in (iN i) 8 := iN_in (by omega) (by omega)
    have ni : (iN i).toNatClampNeg = i := iN_nat (by omega)
    have hQ := (rp.1 i (by omega)).1
    have hWm := (rp.1 i (by omega)).2
    have neu : ¬ sI u 2 ≤ iN i := fun z => by
      rw [e2u] at z
      have := (iN_le (by omega) (by omega)).mp z; omega
    have nev : ¬ sI v 3 ≤ iN i := fun z => by
      rw [e3] at z
      have := (iN_le (by omega) (by omega)).mp z; omega
    by_cases h9 : sA v 9 i < 0
    · obtain ⟨c', u', v', gx, gm, gR, g0⟩ := ih (i + 1) c u v (by omega) h ht
      have s4 : sQ u 4 (aW u i) = none := by rw [rwi.1, oJ_neg h9]
      refine ⟨c', u', v', fun post k => ?_, fun post k25 l1 l2 hl k => ?_, gR, g0⟩
      · obtain ⟨nn, hnn⟩ := gx post k
        refine ⟨nn + 1, fun z => absurd z neu, fun _ => ⟨vi5, fun r2 e2 => ⟨aW u i, by rw [e2, ni, hQ], hWm, fun r5 e5 => ⟨fun _ x7 e7 => by rw [e7, iN_succ]; exact hnn, fun y6 e6 => (by rw [e5, s4] at e6; cases e6)⟩⟩⟩⟩
      · obtain ⟨nn, hnn⟩ := gm post k25 l1 l2 hl k
        refine ⟨nn + 1, fun z => absurd z hl, fun _ => ⟨fun z => absurd z nev, fun _ => ⟨vi8, fun _ x12 e12 => by rw [e12, iN_succ]; exact hnn, fun z => ?_⟩⟩⟩
        rw [ni] at z
        exact absurd h9 z
    · obtain ⟨b, hb, eb⟩ : ∃ b, b < j ∧ sA v 9 i = iN b := by
        rcases ip.2.2.1 i (by omega) with z | z
        · exact absurd z h9
        · exact z
      have s4 : sQ u 4 (aW u i) = some (aA K b) := by rw [rwi.1, eb, oJ_N (by omega)]
      have vb := h.2.2.2.2.2.2.2.2.2.2.2.2.1
      have s2 : sA v 4 b = 2 := by
        rcases vb.1 i b (by omega) hb eb with z | z
        · exact z
        · omega
      have mb := (h.1.2 b hb).2.1
      have hS := RR_st (s := 5) (RR_x0' (x0 := b) h) hb (by decide) (IP_st ip hb (by decide) (fun z => absurd z (by decide)) (fun z => absurd z (by decide))) (fun k hk ez => absurd ez (no_q h hb (by rw [s2]; decide) k hk)) (fun k hk ez => Or.inr rfl)
      have hR1 := RR_rest (k := i) hS (by omega) (fun i' hi' ez => by
        have : i' = b := (iN_inj (by omega) (by omega)).mp (ez.symm.trans eb)
        rw [this, tA_eq]; decide)
      have hR2 := RR_x0 hR1 (fun k' hk' _ ez => by
        exfalso
        have ez' : sA (tA v 9 i (-1)) 9 k' = iN b := ez
        by_cases hki : k' = i
        · rw [hki, tA_eq] at ez'; exact iN_neg (i := b) (by omega) (by decide) ez'
        · rw [tA_ne hki] at ez'
          exact hki (vb.2 k' i hk' (by omega) (by rw [ez']; exact iN_nneg (by omega)) (ez'.trans eb.symm)))
      obtain ⟨c', u', v', gx, gm, gR, g0⟩ := ih (i + 1) (c + 1) _ _ (by omega) hR2 ht
      refine ⟨c' + 1, u', v', fun post k => ?_, fun post k25 l1 l2 hl k => ?_, gR, g0⟩
      · obtain ⟨nn, hnn⟩ := gx post (by rw [show c + 1 + c' = c + (c' + 1) by omega]; exact k)
        refine ⟨nn + 1, fun z => absurd z neu, fun _ => ⟨vi5, fun r2 e2 => ⟨aW u i, by rw [e2, ni, hQ], hWm, fun r5 e5 => ⟨fun z => (by rw [e5, s4] at z; cases z), fun y6 e6 => ?_⟩⟩⟩⟩
        rw [e5, s4] at e6
        cases e6
        refine ⟨mb, fun u9 e9 => ⟨vi5, fun r10 e10 => ⟨aW u i, by rw [e10, e9, ni]; exact hQ, hWm, ?_⟩⟩⟩
        subst e9
        refine e_rest (fun x15 e15 x16 e16 => ?_)
        rw [e15, e16, iN_succ, iN_succ]
        rw [← ht] at hnn ⊢
        exact hnn
      · obtain ⟨nn, hnn⟩ := gm post k25 l1 (l2 + 1) hl (by
          rw [show iN (c' + 1) = 1 + iN c' from by rw [show (1 : Int32) = iN 1 from rfl, iN_plus, show 1 + c' = c' + 1 by omega], ← Int32.add_assoc] at k
          exact k)
        refine ⟨nn + 1, fun z => absurd z hl, fun _ => ⟨fun z => absurd z nev, fun _ => ⟨vi8, fun z => ?_, fun _ => ⟨vi8, ?_⟩⟩⟩⟩
        · rw [ni] at z
          exact absurd z h9
        · rw [ni, eb, iN_nat (by omega)]
          refine ⟨iN_in (by omega) (by omega), fun u13 e13 x14 e14 => ?_⟩
          subst e13
          refine m_rest (by omega) (fun x17 e17 => ?_)
          rw [e17, iN_succ, e14]
          exact hnn
theorem j_shut {b : Int32} (h : RR n B KMv K j 0 w q e 24 24 60 u v) (hE : vE v) : JA f (fun post => wpL_shut K post u f b) (fun post => wpM6_shut KMv post v b) (JR n B KMv K j) := by
  have ip := RR_ip h
  have ph : sI u 0 = sI v 2 := h.2.1.1
  by_cases c0 : sI v 2 = 0
  case neg =>
    exact JA_no (c := 1) (r := 0) (u' := u) (v' := tI (tI v 0 0) 0 1) (by decide) (fun post k => ⟨fun z => absurd (ph.symm.trans z) c0, fun _ => ⟨rfl, k⟩⟩) (fun post k => fun u1 e1' => by subst e1'; exact ⟨fun z => absurd z c0, fun _ => f_fail k⟩) rfl ⟨w, q, e, RR_i0 (RR_i0 h), hE⟩
  case pos =>
  have hP := RR_phase (s := 1) (RR_i0 (s := 0) h)
  by_cases cb : b = 0
  · obtain ⟨u', v', w', e', gx, gm, gR, gE, g0, g1⟩ := j_end hP
    exact JA_ok (r := 0) (u' := u') (v' := v') (fun post k => ⟨fun _ u2 e2 => by subst e2; exact ⟨fun _ => gx _ k, fun z => absurd cb z⟩, fun z => absurd (ph.trans c0) z⟩) (fun post k => fun u1 e1' => by
      subst e1'
      refine ⟨fun _ u3 e3 => ?_, fun z => absurd c0 z⟩
      subst e3
      exact ⟨1, fun _ => ⟨1, fun _ => gm _ _ k, fun z => absurd cb z⟩, fun z => absurd cb z⟩) g0 ⟨w', q, e', gR, gE⟩
  · have e4u : sI (tI u 0 1) 4 = iN q := h.2.2.1.2.1
    have hU := uL_self e4u
    have hP' := hP
    rw [← hU] at hP'
    obtain ⟨u1, v1, ax, am, aR, a0⟩ := j_ca ip.1.2.2.1 q 0 (tI u 0 1) _ _ _ (by omega) hP' (fun k hk => by rw [show 0 + k = k by omega]) e4u
    obtain ⟨c', u2, v2, bx, bm, bR, b0⟩ := j_cc (tt := sD u1 0) w 0 0 u1 v1 (by omega) aR rfl
    obtain ⟨u', v', w', e', gx, gm, gR, gE, g0, g1⟩ := j_end bR
    refine JA_ok (r := iN q + iN c') (u' := u') (v' := v') (fun post k => ⟨fun _ u2' e2 => ?_, fun z => absurd (ph.trans c0) z⟩) (fun post k => fun u1' e1' => by
      subst e1'
      refine ⟨fun _ u3 e3 => ?_, fun z => absurd c0 z⟩
      subst e3
      refine am post b 0 cb (fun k25 => bm post k25 b (0 + iN q) cb ?_)
      rw [Int32.zero_add]
      exact gm _ _ k) ((g0.trans b0).trans a0) ⟨w', 0, e', gR, gE⟩
    subst e2
    refine ⟨fun z => absurd z cb, fun _ x1 e1 => ?_⟩
    have e1' : x1 = iN q := e1.trans e4u
    rw [e1']
    refine ax _ ?_
    refine bx _ (fun x10 e10 => ?_)
    rw [e10, show 0 + c' = c' by omega]
    exact gx _ k
end SHU
