/-! class and reference: what follows on a job that has ended -/
def JF (n : Int) (B : Nat) (KMv : KM) (K : KX) (j e x0 f d T : Nat) (u v : gS) (y : Nat) : Prop :=
  ∃ u' v' w' q', (∀ post : gS → Prop, post u' → wpX0_performAndEnd K (wpX0_admit f) post u (aA K y) (iN d)) ∧ (∀ (b : Nat) (post : gS → Prop) (l1 : Int32), b ≤ T → (∃ m, wpM6_perform_10 KMv post m l1 (iN b) v') → ∃ m, wpM6_perform_10 KMv post m l1 (iN b) v) ∧ RR n B KMv K j T w' q' e 24 x0 60 u' v' ∧ Kp j T v v' ∧ (sA v' 4 y = 3 ∨ sA v' 4 y = 4) ∧ Nk y v v' ∧ Qw u u'
def IHt (n : Int) (B : Nat) (KMv : KM) (K : KX) (j e x0 c : Nat) : Prop := ∀ (f d T w q y : Nat) (u v : gS), RR n B KMv K j (T + 1) w q e 24 x0 60 u v → sA v 13 T = iN y → sA v 14 T = 0 → y < j → sA v 4 y = 2 → (x0 < j → sA v 4 x0 ≠ 0) → (Bs v y → y = x0) → cN (sA v 4) j ≤ c → c ≤ f → d + c ≤ 24 → JF n B KMv K j e x0 f d T u v y
section JTL
variable {n : Int} {B : Nat} {KMv : KM} {K : KX} {j t w q e x x0 g T y : Nat} {u v : gS}
theorem Kp_pop (h : IP n j (T + 1) w q e 24 60 v) : Kp j T v (mPop v T) := ⟨Ext.same h.1.2.1 h.2.1.2.1 h.2.1.2.1 (fun _ => rfl) (fun _ => rfl), fun i _ => rfl, fun f _ => ⟨rfl, rfl⟩, fun _ => rfl, fun i hi => hi, Nat.le_refl _⟩
theorem Kp_push {z : Nat} (h : IP n j T w q e 24 60 v) (h0 : sA v 4 z = 0) : Kp j T v (mPush v T z) := by
  refine ⟨Ext.same h.1.2.1 h.2.1.2.1 h.2.1.2.1 (fun _ => rfl) (fun _ => rfl), St_st (by rw [h0]; decide) (by rw [h0]; decide) (mPush_4 v T z), fun f hf => ⟨?_, ?_⟩, fun _ => rfl, fun i hi => ?_, ?_⟩
  · show sA (tA v 13 T (iN z)) 13 f = _
    rw [tA_ne (by omega)]
  · show sA (tA (tA v 13 T (iN z)) 14 T 0) 14 f = _
    rw [tA_ne (by omega)]; rfl
  · rw [mPush_4]
    by_cases hz : i = z
    · rw [hz, tA_eq]; decide
    · rw [tA_ne hz]; exact hi
  · rw [show sA (mPush v T z) 4 = sA (tA v 4 z 2) 4 from funext (mPush_4 v T z)]
    exact cN_st' (by decide)
theorem j_tail {c f d : Nat} (hK : KMI KMv) (hBm : B < 2147483647) (IH : ∀ c', c' < c → IHt n B KMv K j e x0 c') (h : RR n B KMv K j (T + 1) w q e 24 x0 60 u v) (hd : sA v 13 T = iN y) (hs0 : ¬ sA v 14 T = 0) (hs1 : ¬ sA v 14 T = 1) (hy : y < j) (h34 : sA v 4 y = 3 ∨ sA v 4 y = 4) (hx0 : x0 < j → sA v 4 x0 ≠ 0) (hc : cN (sA v 4) j ≤ c) (hf : c ≤ f) (hdc : d + c ≤ 24) :
    ∃ u' v' w' q', (∀ post : gS → Prop, post u' → xTail K (wpX0_admit f) post (aA K y) (iN d) u) ∧ (∀ (b : Nat) (post : gS → Prop) (l1 : Int32), b ≤ T → (∃ m, wpM6_perform_10 KMv post m l1 (iN b) v') → ∃ m, wpM6_perform_10 KMv post m l1 (iN b) v) ∧ RR n B KMv K j T w' q' e 24 x0 60 u' v' ∧ Kp j T v v' ∧ Nk 24 v v' ∧ Qw u u' := by
  have ip := RR_ip h
  have hj := ip.1.1
  have kc : T + 1 + cN (sA v 4) j ≤ 25 := ip.2.2.2.2.2.2.2.2.2.2.1
  have hT : T < 60 := by omega
  have et := ip.2.1.2.2.2.2
  have hy24 : y < 24 := by omega
  have hn2 : sA v 4 y ≠ 2 := by rcases h34 with z | z <;> (rw [z]; decide)
  have hP := RR_pop h hd hy hn2
  have r0 := h.2.2.2.1
  have r3 := h.2.2.2.2.2.2.1 y hy
  have hkp := Kp_pop ip
  have hs4 : sA u 0 (aA K y) = sA v 4 y := r0 y hy
  have hnk : Nk 24 v (mPop v T) := Nk_same (fun _ => rfl) rfl (fun _ => rfl) (Sc0_r ip.1.2.1 ip.2.1.2.1 ⟨rfl, rfl, rfl, rfl, fun _ => rfl⟩)
  -- nothing follows
  have stop : (sA v 4 y ≠ 3 ∨ sA v 5 y < 0 ∨ ∃ z, z < 24 ∧ sA v 5 y = iN z ∧ sA v 4 z ≠ 0) → (∀ post : gS → Prop, post (tI u 1 (sI u 1 + 1)) → xTail K (wpX0_admit f) post (aA K y) (iN d) u) → ∃ u' v' w' q', (∀ post : gS → Prop, post u' → xTail K (wpX0_admit f) post (aA K y) (iN d) u) ∧ (∀ (b : Nat) (post : gS → Prop) (l1 : Int32), b ≤ T → (∃ m, wpM6_perform_10 KMv post m l1 (iN b) v') → ∃ m, wpM6_perform_10 KMv post m l1 (iN b) v) ∧ RR n B KMv K j T w' q' e 24 x0 60 u' v' ∧ Kp j T v v' ∧ Nk 24 v v' ∧ Qw u u' := fun hx hcl =>
    ⟨_, _, w, q, hcl, fun b post l1 hb k => l_2e hT et hb hs0 hs1 hd hy24 hx k, hP, hkp, hnk, fun _ => rfl⟩
  by_cases h3 : sA v 4 y = 3
  case neg =>
    refine stop (Or.inl h3) (fun post k u4 e4 r5 e5 => ?_)
    subst e4
    exact ⟨fun _ => k, fun z => absurd (hs4.symm.trans z) h3⟩
  case pos =>
  rcases ip.2.2.2.2.2.1 y hy with hn5 | ⟨z, hz, ez⟩
  · refine stop (Or.inr (Or.inl hn5)) (fun post k u4 e4 r5 e5 => ?_)
    subst e4
    rw [oJ_neg hn5] at r3
    have e5' : r5 = none := e5.trans r3
    exact ⟨fun z => absurd (hs4.trans h3) z, fun _ => ⟨fun _ => k, fun y7 e7 => by rw [e5'] at e7; cases e7⟩⟩
  · rw [ez, oJ_N (by omega)] at r3
    have sz : sA u 0 (aA K z) = sA v 4 z := r0 z hz
    have mz := (h.1.2 z hz).2.1
    by_cases h0 : sA v 4 z = 0
    case neg =>
      refine stop (Or.inr (Or.inr ⟨z, by omega, ez, h0⟩)) (fun post k u4 e4 r5 e5 => ?_)
      subst e4
      have e5' : r5 = some (aA K z) := e5.trans r3
      exact ⟨fun z => absurd (hs4.trans h3) z, fun _ => ⟨fun _ => k, fun y7 e7 => by rw [e5'] at e7; cases e7; exact ⟨mz, fun _ => k, fun z' => absurd (sz.symm.trans z') h0⟩⟩⟩
    case pos =>
    have c1 := cN_st (v := v) (j := j) (y := z) (s := 2) hz (by decide) h0
    obtain ⟨f', rfl⟩ : ∃ f', f = f' + 1 := ⟨f - 1, by omega⟩
    have cls : ∀ (post : gS → Prop), wpX0_admitF K (wpX0_admit f') post (tI u 1 (sI u 1 + 1)) (aA K z) (iN (d + 1)) → xTail K (wpX0_admit (f' + 1)) post (aA K y) (iN d) u := fun post k u4 e4 r5 e5 => by
      subst e4
      have e5' : r5 = some (aA K z) := e5.trans r3
      refine ⟨fun z => absurd (hs4.trans h3) z, fun _ => ⟨fun z' => (by rw [e5'] at z'; cases z'), fun y7 e7 => ?_⟩⟩
      rw [e5'] at e7
      cases e7
      refine ⟨mz, fun z' => absurd (sz.trans h0) z', fun _ => ?_⟩
      rw [iN_succ]
      exact k
    rcases j_place (d := d + 1) hK hP hBm hz h0 hx0 (by omega) with ⟨u', v', w', q', hx, hm, hR, hpl, hst, hne, _, hNq, _, hqw⟩ | ⟨_, hx, hm⟩
    · exact ⟨u', v', w', q', fun post k => cls post (hx f' post k), fun b post l1 hb k => l_2p hT et hb hs0 hs1 hd hy24 h3 (by omega) ez h0 hm k, hR, hkp.trans (Kp_Pl hpl hst), hnk.trans (Nk_Nq (y := 24) hNq h0) (fun _ hi => hi) (Or.inl rfl), hqw⟩
    · have hR := RR_push hP hz h0 hx0
      have hkq := Kp_push (RR_ip hP) (z := z) h0
      have hcc : cN (sA (mPush (mPop v T) T z) 4) j ≤ c - 1 := by
        rw [show sA (mPush (mPop v T) T z) 4 = sA (tA (mPop v T) 4 z 2) 4 from funext (mPush_4 _ T z)]
        have := cN_st (v := mPop v T) (j := j) (y := z) (s := 2) hz (by decide) h0
        have e : cN (sA (mPop v T) 4) j = cN (sA v 4) j := rfl
        omega
      have hnp : Nk 24 v (mPush (mPop v T) T z) := hnk.trans (Nk_Nq (y := 24) (Nq_same (y := z) (fun i hi => by rw [mPush_4, tA_ne hi]) rfl (fun _ => rfl) (Sc0_r (v := mPop v T) ip.1.2.1 ip.2.1.2.1 ⟨rfl, rfl, rfl, rfl, fun _ => rfl⟩)) h0) (fun _ hi => hi) (Or.inl rfl)
      obtain ⟨u', v', w', q', gx, gm, gR, gk, g34, gN, gQ⟩ := IH (c - 1) (by omega) f' (d + 1) T w q z _ _ hR (by show sA (tA (mPop v T) 13 T (iN z)) 13 T = iN z; rw [tA_eq]) (by show sA (tA (tA (mPop v T) 13 T (iN z)) 14 T 0) 14 T = 0; rw [tA_eq]) hz (by rw [mPush_4, tA_eq]) (fun hj0 => hkq.2.2.2.2.1 x0 (hx0 hj0)) (fun zz => Bs_x0 hP hz (by show sA v 4 z ≠ 2; rw [h0]; decide) (Bs_same rfl (fun _ => rfl) zz)) hcc (by omega) (by omega)
      exact ⟨u', v', w', q', fun post k => cls post (hx f' post (gx post k)), fun b post l1 hb k => l_2q hT et hb hs0 hs1 hd hy24 h3 (by omega) ez h0 hm (gm b post l1 hb k), gR, (hkp.trans hkq).trans gk, hnp.trans gN (hkp.trans hkq).2.2.2.2.1 (Or.inr (Or.inl h0)), gQ⟩
end JTL
