/-! class and reference: step -/
/-- of the workers the first p had their turn, the next r are to have it, the rest is too young -/
def Lst (p r : Nat) (last N0 : Int32) (w : Nat) (v : gS) : Prop := N0 ≤ sI v 4 ∧ p + r ≤ w ∧ (∀ i, i < p → sA v 8 i ≤ last) ∧ (∀ i, p ≤ i → i < p + r → last < sA v 8 i ∧ sA v 8 i < N0) ∧ (∀ i, p + r ≤ i → i < w → N0 ≤ sA v 8 i)
section STP
variable {n : Int} {B : Nat} {KMv : KM} {K : KX} {j t w q e x x0 g T y : Nat} {u v : gS} {f : Nat → Int64}
/-- the next name, as the reference looks for it -/
def nB (p r : Nat) (v : gS) (i : Nat) : Int32 := if p < i ∧ 0 < r then sA v 8 p else -1
theorem f_57 {post : Int32 → gS → Prop} {k29 : Int32 → Int32 → Int32 → gS → Prop} {k46 : Int32 → Int32 → Int32 → Int32 → Int32 → Int32 → gS → Prop} {l1 l2 l3 N0 last l6 : Int32} {p r : Nat} (hw : w ≤ 5) (e3 : sI v 3 = iN w) (hL : Lst p r last N0 w v) (h0 : ∀ i, i < w → ¬ sA v 8 i < 0) (hs : ∀ a b, a < b → b < w → sA v 8 a < sA v 8 b)
    (kz : r = 0 → k46 l1 l2 l3 N0 (-1) 0 v) (kp : 0 < r → wpM6_turn KMv (fun (u18 : gS) => k46 l1 l2 l3 N0 (sA v 8 p) 1 u18) v (sA v 8 p)) : ∃ n57, wpM6_step_57 KMv post k29 k46 n57 l1 l2 l3 N0 last l6 (-1) 0 v := by
  obtain ⟨_, hpr, hlo, hmid, hhi⟩ := hL
  have key : ∀ d i, i + d = w → wpM6_step_57 KMv post k29 k46 (d + 1) l1 l2 l3 N0 last l6 (nB p r v i) (iN i) v := by
    intro d
    induction d with
    | zero =>
      intro i hi
      refine ⟨fun _ => ?_, fun z => absurd (by rw [e3, show i = w by omega]; exact Int32.le_refl _) z⟩
      rcases Nat.eq_zero_or_pos r with hr | hr
      · rw [show nB p r v i = -1 from if_neg (by omega)]
        exact ⟨fun _ => kz hr, fun z => absurd (by decide) z⟩
      · rw [show nB p r v i = sA v 8 p from if_pos ⟨by omega, hr⟩]
        exact ⟨fun z => absurd z (h0 p (by omega)), fun _ => kp hr⟩
    | succ d ih =>
      intro i hi
      have vi : vp_in (iN i) 8 := iN_in (by omega) (by omega)
      have ni : (iN i).toNatClampNeg = i := iN_nat (by omega)
      have nx := ih (i + 1) (by omega)
      refine ⟨fun z => ?_, fun _ => ⟨vi, ?_⟩⟩
      · rw [e3] at z
        have := (iN_le (by omega) (by omega)).mp z; omega
      rw [ni, iN_succ]
      by_cases hip : i < p
      · rw [show nB p r v (i + 1) = nB p r v i from by unfold nB; rw [if_neg (by omega), if_neg (by omega)]] at nx
        exact ⟨fun _ x20 e20 => by subst e20; exact nx, fun z => absurd (hlo i hip) z⟩
      · by_cases hir : i < p + r
        · obtain ⟨m1, m2⟩ := hmid i (by omega) hir
          refine ⟨fun z => absurd m1 (Int32.not_lt.mpr z), fun _ => ⟨vi, fun z => absurd m2 (Int32.not_lt.mpr z), fun _ => ?_⟩⟩
          rw [show nB p r v (i + 1) = sA v 8 p from if_pos ⟨by omega, by omega⟩] at nx
          by_cases hpi : i = p
          · subst hpi
            rw [show nB i r v i = -1 from if_neg (by omega)]
            exact ⟨fun _ => ⟨vi, fun x24 e24 x25 e25 => by subst e24 e25; exact nx⟩, fun z => absurd (by decide) z⟩
          · rw [show nB p r v i = sA v 8 p from if_pos ⟨by omega, by omega⟩]
            have lt := hs p i (by omega) (by omega)
            exact ⟨fun z => absurd z (h0 p (by omega)), fun _ => ⟨vi, fun _ x27 e27 => by subst e27; exact nx, fun z => absurd (Int32.le_of_lt lt) z⟩⟩
        · have hh := hhi i (by omega) (by omega)
          rw [show nB p r v (i + 1) = nB p r v i from by
            unfold nB
            by_cases hr : 0 < r
            · rw [if_pos ⟨by omega, hr⟩, if_pos ⟨by omega, hr⟩]
            · rw [if_neg (by omega), if_neg (by omega)]] at nx
          exact ⟨fun _ x20 e20 => by subst e20; exact nx, fun _ => ⟨vi, fun _ x22 e22 => by subst e22; exact nx, fun z => absurd hh z⟩⟩
  have := key w 0 (by omega)
  rw [show nB p r v 0 = -1 from if_neg (by omega)] at this
  exact ⟨w + 1, this⟩
theorem Lst_turn {p r : Nat} {last N0 r' : Int32} {v' : gS} {w' : Nat} (hw : w ≤ 5) (hL : Lst p (r + 1) last N0 w v) (hs : ∀ a b, a < b → b < w → sA v 8 a < sA v 8 b) (hT : Tn p w w' r' v v') : (r' = 1 ∧ Lst (p + 1) r (sA v 8 p) N0 w' v') ∨ (r' = 0 ∧ Lst p r (sA v 8 p) N0 w' v') := by
  obtain ⟨hN, hpr, hlo, hmid, hhi⟩ := hL
  obtain ⟨h4, hT⟩ := hT
  have mp := hmid p (Nat.le_refl _) (by omega)
  have le : ∀ i, i < p → sA v 8 i ≤ sA v 8 p := fun i hi => Int32.le_of_lt (hs i p hi (by omega))
  rcases hT with ⟨e, hw1, k8, kn⟩ | ⟨e, hw1, k8, kn⟩
  · refine Or.inl ⟨e, Int32.le_trans hN h4, by omega, fun i hi => ?_, fun i h1 h2 => ?_, fun i h1 h2 => ?_⟩
    · rw [k8 i (by omega)]
      by_cases hip : i = p
      · rw [hip]; exact Int32.le_refl _
      · exact le i (by omega)
    · rw [k8 i (by omega)]
      exact ⟨hs p i (by omega) (by omega), (hmid i (by omega) (by omega)).2⟩
    · by_cases hi : i < w
      · rw [k8 i hi]; exact hhi i (by omega) hi
      · exact Int32.le_trans hN (kn i (by omega) h2)
  · refine Or.inr ⟨e, Int32.le_trans hN h4, by omega, fun i hi => ?_, fun i h1 h2 => ?_, fun i h1 h2 => ?_⟩
    · rw [k8 i (by omega), if_pos hi]; exact le i hi
    · rw [k8 i (by omega), if_neg (by omega)]
      exact ⟨hs p (i + 1) (by omega) (by omega), (hmid (i + 1) (by omega) (by omega)).2⟩
    · by_cases hi : i < w - 1
      · rw [k8 i hi, if_neg (by omega)]; exact hhi (i + 1) (by omega) (by omega)
      · exact Int32.le_trans hN (kn i (by omega) h2)
theorem j_round {m : Nat} {N0 : Int32} (hK : KMI KMv) (hn : n ≤ 1000000000) (hm : m ≤ 5) : ∀ (r p w q B : Nat) (last : Int32) (u v : gS), RR n B KMv K j 0 w q e 24 24 60 u v → Lst p r last N0 w v → r ≤ m → B + r < 2147483647 → 
    ∃ u' v' w' q', (∀ post : gS → Prop, post u' → ∃ nn, wpX0_runStep_12 K post nn (iN m) (iN p) (iN (m - r)) u) ∧ (∀ (post : Int32 → gS → Prop) (k29 : Int32 → Int32 → Int32 → gS → Prop) (l1 l2 l3 : Int32), k29 l1 l2 (l3 + 1) v' → ∃ nn, wpM6_step_46 KMv post k29 nn l1 l2 l3 N0 last 1 v) ∧ RR n (B + r) KMv K j 0 w' q' e 24 24 60 u' v' ∧ sI v' 0 = sI v 0 := by
  intro r
  induction r with
  | zero =>
    intro p w q B last u v h hL hr hB
    have ip := RR_ip h
    obtain ⟨c, e4, hc, h8, hs⟩ := h.2.2.2.2.2.2.2.2.2.2.2.2.2.1
    refine ⟨u, v, w, q, fun post k => ⟨1, fun _ => k, fun z => absurd (Int32.le_refl _) z⟩, fun post k29 l1 l2 l3 k => ⟨2, fun z => absurd z (by decide), fun _ => f_57 ip.1.2.1 ip.2.1.2.1 hL (fun i hi => ?_) hs (fun _ => ⟨fun _ x12 e12 => by subst e12; exact k, fun z => absurd rfl z⟩) (fun z => by omega)⟩, h, rfl⟩
    obtain ⟨a, ha, ea⟩ := h8 i hi
    rw [ea]; exact iN_nneg (by omega)
  | succ r ih =>
    intro p w q B last u v h hL hr hB
    have ip := RR_ip h
    have hw := ip.1.2.1
    obtain ⟨c, e4, hc, h8, hs⟩ := h.2.2.2.2.2.2.2.2.2.2.2.2.2.1
    have hpw : p < w := by have := hL.2.1; omega
    have h0 : ∀ i, i < w → ¬ sA v 8 i < 0 := fun i hi => by
      obtain ⟨a, ha, ea⟩ := h8 i hi
      rw [ea]; exact iN_nneg (by omega)
    obtain ⟨r', u1, v1, w1, q1, tx, tm, tR, tT, t0⟩ := j_turn hK (by omega) hn h hpw rfl
    have step : ∀ (p' : Nat) (u' v' : gS) , (∀ post : gS → Prop, post u' → ∃ nn, wpX0_runStep_12 K post nn (iN m) (iN p') (iN (m - r)) u1) → (r' = 1 ∧ p' = p + 1) ∨ (r' = 0 ∧ p' = p) → (∀ post : gS → Prop, post u' → ∃ nn, wpX0_runStep_12 K post nn (iN m) (iN p) (iN (m - (r + 1))) u) := fun p' u' v' hx hr' post k => by
      obtain ⟨nn, hnn⟩ := hx post k
      refine ⟨nn + 1, fun z => ?_, fun _ => tx _ ?_⟩
      · have := (iN_le (by omega) (by omega)).mp z; omega
      · have es : iN (m - (r + 1)) + 1 = iN (m - r) := by rw [iN_succ, show m - (r + 1) + 1 = m - r by omega]
        rcases hr' with ⟨e1, e2⟩ | ⟨e1, e2⟩
        · subst e1 e2
          exact ⟨fun z => absurd z (by decide), fun _ x7 e7 x8 e8 => by rw [e7, e8, es, iN_succ]; exact hnn⟩
        · subst e1 e2
          exact ⟨fun _ x6 e6 => by rw [e6, es]; exact hnn, fun z => absurd rfl z⟩
    have stem : ∀ v' : gS, (∀ (post : Int32 → gS → Prop) (k29 : Int32 → Int32 → Int32 → gS → Prop) (l1 l2 l3 : Int32), k29 l1 l2 (l3 + 1) v' → ∃ nn, wpM6_step_46 KMv post k29 nn l1 l2 l3 N0 (sA v 8 p) 1 v1) → (∀ (post : Int32 → gS → Prop) (k29 : Int32 → Int32 → Int32 → gS → Prop) (l1 l2 l3 : Int32), k29 l1 l2 (l3 + 1) v' → ∃ nn, wpM6_step_46 KMv post k29 nn l1 l2 l3 N0 last 1 v) := fun v' hx post k29 l1 l2 l3 k => by
      obtain ⟨nn, hnn⟩ := hx post k29 l1 l2 l3 k
      exact ⟨nn + 1, fun z => absurd z (by decide), fun _ => f_57 hw ip.2.1.2.1 hL h0 hs (fun z => by omega) (fun _ => tm _ hnn)⟩
    rcases Lst_turn hw hL hs tT with ⟨er, hL'⟩ | ⟨er, hL'⟩
    · obtain ⟨u', v', w', q', gx, gm, gR, g0⟩ := ih (p + 1) w1 q1 (B + 1) (sA v 8 p) u1 v1 tR hL' (by omega) (by omega)
      exact ⟨u', v', w', q', step (p + 1) u' v' gx (Or.inl ⟨er, rfl⟩), stem v' gm, RR_B gR (by omega), g0.trans t0⟩
    · obtain ⟨u', v', w', q', gx, gm, gR, g0⟩ := ih p w1 q1 (B + 1) (sA v 8 p) u1 v1 tR hL' (by omega) (by omega)
      exact ⟨u', v', w', q', step p u' v' gx (Or.inr ⟨er, rfl⟩), stem v' gm, RR_B gR (by omega), g0.trans t0⟩
theorem j_steps {m : Nat} {l2 : Int32} (hK : KMI KMv) (hn : n ≤ 1000000000) (hm : m ≤ 10) : ∀ (d i w q B : Nat) (u v : gS), i + d = m → RR n B KMv K j 0 w q e 24 24 60 u v → B + 5 * d < 2147483647 → 
    ∃ u' v', (∀ (px : String → gS → Prop) (post : Int32 → gS → Prop), post (sI u' 1 - l2) u' → ∃ nn, wpX0_step_14 K post px nn (iN m) l2 (iN i) u) ∧ (∀ post : Int32 → gS → Prop, post (sI u' 1 - l2) v' → ∃ nn, wpM6_step_29 KMv post nn (iN m) l2 (iN i) v) ∧ JR n (B + 5 * d) KMv K j u' v' ∧ sI v' 0 = sI v 0 := by
  intro d
  induction d with
  | zero =>
    intro i w q B u v hi h hB
    obtain ⟨u', v', w', e', hx, hm', hR, hE, h0, h1⟩ := j_end h
    have e1 : sI u 1 = sI v 8 := h.2.1.2.1
    refine ⟨u', v', fun px post k => ⟨1, fun _ => hx _ k, fun z => ?_⟩, fun post k => ⟨1, fun _ => ?_, fun z => ?_⟩, ⟨w', q, e', hR, hE⟩, h0⟩
    · exact absurd (by rw [show i = m by omega]; exact Int32.le_refl _) z
    · rw [h1, e1] at k
      exact hm' _ _ k
    · exact absurd (by rw [show i = m by omega]; exact Int32.le_refl _) z
  | succ d ih =>
    intro i w q B u v hi h hB
    have ip := RR_ip h
    have hw := ip.1.2.1
    obtain ⟨c, e4, hc, h8, hs⟩ := h.2.2.2.2.2.2.2.2.2.2.2.2.2.1
    have hL : Lst 0 w (-1) (sI v 4) w v := by
      refine ⟨Int32.le_refl _, by omega, fun i hi => by omega, fun i _ hi => ?_, fun i h1 h2 => by omega⟩
      obtain ⟨a, ha, ea⟩ := h8 i (by omega)
      rw [ea, e4]
      refine ⟨?_, (iN_lt (by omega) (by omega)).mpr ha⟩
      exact Int32.lt_of_lt_of_le (by decide) (Int32.not_lt.mp (iN_nneg (k := a) (by omega)))
    obtain ⟨u1, v1, w1, q1, tx, tm, tR, t0⟩ := j_round (m := w) hK hn hw w 0 w q B (-1) u v h hL (Nat.le_refl _) (by omega)
    obtain ⟨u', v', gx, gm, gR, g0⟩ := ih (i + 1) w1 q1 (B + 5) u1 v1 (by omega) (RR_B tR (by omega)) (by omega)
    refine ⟨u', v', fun px post k => ?_, fun post k => ?_, by rw [show B + 5 * (d + 1) = B + 5 + 5 * d by omega]; exact gR, g0.trans t0⟩
    · obtain ⟨nn, hnn⟩ := gx px post k
      refine ⟨nn + 1, fun z => ?_, fun _ x1 e1 => ?_⟩
      · have := (iN_le (by omega) (by omega)).mp z; omega
      · have e1' : x1 = iN w := e1.trans h.2.2.1.1
        rw [e1']
        have := tx (fun u8 => ∀ x9 : Int32, x9 = iN i + 1 → wpX0_step_14 K post px nn (iN m) l2 x9 u8) (fun x9 e9 => by rw [e9, iN_succ]; exact hnn)
        rw [show w - w = 0 by omega] at this
        exact this
    · obtain ⟨nn, hnn⟩ := gm post k
      refine ⟨nn + 1, fun z => ?_, fun _ x10 e10 => ?_⟩
      · have := (iN_le (by omega) (by omega)).mp z; omega
      · rw [e10]
        exact tm post _ _ _ _ (by rw [iN_succ]; exact hnn)
theorem i1 (x : Int32) : x < 1 ↔ x < 0 ∨ x = 0 := by
  rw [Int32.lt_iff_toInt_lt, Int32.lt_iff_toInt_lt, ← Int32.toInt_inj]
  have a : (1 : Int32).toInt = 1 := rfl
  have b : (0 : Int32).toInt = 0 := rfl
  omega
theorem j_step {a1 : Int32} (hK : KMI KMv) (hn : n ≤ 1000000000) (hBm : B + 50 < 2147483647) (h : RR n B KMv K j 0 w q e 24 24 60 u v) (hE : vE v) : JA f (fun post => wpL_step K post u f a1) (fun post => wpM6_step KMv post v a1) (JR n (B + 50) KMv K j) := by
  have bad : (a1 < 1 ∨ ¬ a1 ≤ 10) → JA f (fun post => wpL_step K post u f a1) (fun post => wpM6_step KMv post v a1) (JR n (B + 50) KMv K j) := fun hb => by
    refine JA_no (c := 1) (r := 0) (u' := u) (v' := tI (tI v 0 0) 0 1) (by decide) (fun post k => ⟨fun _ => ⟨rfl, k⟩, fun z0 => ⟨fun z1 => ?_, fun _ => ⟨rfl, k⟩⟩⟩) (fun post k => fun u1 e1' => by
      subst e1'
      refine ⟨fun _ => f_fail k, fun z0 => ⟨fun z1 => ?_, fun _ => f_fail k⟩⟩
      rcases hb with hb | hb
      · exact absurd hb z0
      · exact absurd z1 hb) rfl ⟨w, q, e, RR_B (RR_i0 (RR_i0 h)) (by omega), hE⟩
    rcases hb with hb | hb
    · exact absurd hb z0
    · exact absurd z1 hb
  by_cases h1 : a1 < 1
  · exact bad (Or.inl h1)
  by_cases h2 : a1 ≤ 10
  case neg => exact bad (Or.inr h2)
  have h0 : ¬ a1 < 0 := fun z => h1 ((i1 a1).mpr (Or.inl z))
  obtain ⟨m, hm, em⟩ : ∃ m, m ≤ 10 ∧ a1 = iN m := by
    have := iN_of (Int32.not_lt.mp h0)
    refine ⟨a1.toNatClampNeg, ?_, this⟩
    have hb : a1.toNatClampNeg < 2147483648 := by
      have : a1.toNatClampNeg = a1.toInt.toNat := rfl
      have := a1.toInt_lt
      omega
    rw [this] at h2
    exact (iN_le (b := 10) hb (by omega)).mp h2
  subst em
  obtain ⟨u', v', gx, gm, gR, g0⟩ := j_steps (m := m) (l2 := sI v 8) hK hn hm m 0 w q B u (tI v 0 0) (by omega) (RR_i0 h) (by omega)
  have e1 : sI u 1 = sI v 8 := h.2.1.2.1
  obtain ⟨w', q', e', hR', hE'⟩ := gR
  refine JA_ok (r := sI u' 1 - sI v 8) (u' := u') (v' := v') (fun post k => ⟨fun z => absurd z h1, fun _ => ⟨fun _ x3 e3 => ?_, fun z => absurd h2 z⟩⟩) (fun post k => fun u1 e1' => by
      subst e1'
      exact ⟨fun z => absurd z h1, fun _ => ⟨fun _ x6 e6 => by subst e6; exact gm post k, fun z => absurd h2 z⟩⟩) g0 ⟨w', q', e', RR_B hR' (by omega), hE'⟩
  have e3' : x3 = sI v 8 := e3.trans e1
  rw [e3']
  exact gx _ _ k
end STP
