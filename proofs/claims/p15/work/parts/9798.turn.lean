/-! class and reference: a turn of a worker -/
/-- what both do with a worker that has done its job -/
def xTe (K : KX) (post : Int32 → gS → Prop) (W : Nat) (p1 : Int32) (y : Nat) (u13 : gS) : Prop := ((¬ (sA u13 0 y) = 4 → (wpX0_freeWorker K (fun (u16 : gS) => narrow .boolean (.int 1) = .int 1 ∧ post 1 u16) u13 (some W))) ∧ ((sA u13 0 y) = 4 → (((¬ (sA u13 2 y) = 5 → (wpX0_freeWorker K (fun (u19 : gS) => narrow .boolean (.int 1) = .int 1 ∧ post 1 u19) u13 (some W))) ∧ ((sA u13 2 y) = 5 → (wpX0_replaceWorker K (fun (u21 : gS) => narrow .boolean (.int 0) = .int 0 ∧ post 0 u21) u13 p1))))))
def mTe (K : KM) (post : gS → Prop) (r10 : Int32) (y : Nat) (v : gS) : Prop := ((¬ (sA v 4 y) = 4 → (wpM6_takeNext K (fun (u14 : gS) => post u14) v r10)) ∧ ((sA v 4 y) = 4 → (vp_in (iN y) 24 ∧ (((¬ (sA v 7 y) = 5 → (wpM6_takeNext K (fun (u17 : gS) => post u17) v r10)) ∧ ((sA v 7 y) = 5 → (wpM6_removeWorker K (fun (u19 : gS) => wpM6_fetch K (fun (r20 : Int32) (u21 : gS) => ((r20 < 0 → (post u21)) ∧ (¬ r20 < 0 → (wpM6_newWorker K (fun (u24 : gS) => post u24) u21 r20)))) u19) v r10)))))))
section TRN
variable {n : Int} {B : Nat} {KMv : KM} {K : KX} {j t w q e x x0 g T y : Nat} {u v : gS}
/-- a worker has less left to do -/
theorem RR_left {k : Nat} {s : Int32} (h : RR n B KMv K j t w q e x x0 g u v) (hk : k < w) : RR n B KMv K j t w q e x x0 g (tA u 3 (aW u k) s) (tA v 10 k s) := by
  obtain ⟨rk, rs, rz, r0, r1, r2, r3, rp, rw_, rl, rt, vq, vb, vn, vz, ip⟩ := h
  have hw := ip.1.2.1
  refine ⟨rk, rs, rz, r0, r1, r2, r3, rp, fun i hi => ?_, rl, rt, vq, vb, vn, vz, IP_a10 ip⟩
  have ea : aW (tA u 3 (aW u k) s) i = aW u i := rfl
  rw [ea]
  obtain ⟨h1, h2, h3⟩ := rw_ i hi
  refine ⟨h1, ?_, h3⟩
  by_cases hik : i = k
  · rw [hik, tA_eq, tA_eq]
  · rw [tA_ne hik, tA_ne (fun z => hik (rp.2 i k (by omega) (by omega) z))]; exact h2
/-- a RUNNING job of a worker is put upon the stack: the class has nothing to do -/
theorem RR_push2 (h : RR n B KMv K j 0 w q e 24 24 60 u v) (hy : y < j) (h2 : sA v 4 y = 2) : RR n B KMv K j 1 w q e 24 y 60 u (mPush v 0 y) := by
  have ip := RR_ip h
  have hj := ip.1.1
  have ip' := IP_push (t := 0) ip hy (Or.inr rfl) (by have := cN_le (sA (tA v 4 y 2) 4) j; omega)
  obtain ⟨rk, rs, rz, r0, r1, r2, r3, rp, rw_, rl, rt, vq, vb, vn, vz, _⟩ := h
  have s4 : ∀ i, sA (mPush v 0 y) 4 i = sA v 4 i := fun i => by
    rw [mPush_4]
    by_cases hiy : i = y
    · rw [hiy, tA_eq, h2]
    · rw [tA_ne hiy]
  refine ⟨rk, rs, rz, fun i hi => ?_, r1, r2, r3, rp, rw_, rl, rt, ⟨fun k i hk hi e1 => ?_, vq.2⟩, ⟨fun k i hk hi e1 => ?_, vb.2⟩, ?_, vz, ip'⟩
  · rw [s4]; exact r0 i hi
  · rw [s4]; exact vq.1 k i hk hi e1
  · rw [s4]
    rcases vb.1 k i hk hi e1 with z | z
    · exact Or.inl z
    · omega
  · obtain ⟨c, e4', hc', h8, hs⟩ := vn
    refine ⟨c, e4', ?_, h8, hs⟩
    rw [show sA (mPush v 0 y) 4 = sA v 4 from funext s4]
    exact hc'
/-- a worker is found by its name -/
theorem f_name {post : Int32 → gS → Prop} {k : Nat} {x1 : Int32} (h : RR n B KMv K j t w q e x x0 g u v) (hB : B < 2147483648) (hk : k < w) (hx : sA v 8 k = x1) (kk : post (iN k) v) : wpM6_place0 KMv post v x1 := by
  have ip := RR_ip h
  obtain ⟨c, e4, hc, h8, hs⟩ := h.2.2.2.2.2.2.2.2.2.2.2.2.2.1
  refine f_place0 ip.1.2.1 ip.2.1.2.1 ?_
  rcases scan_spec (P := fun i => decide (sA v 8 i = x1)) w 0 with ⟨h1, h2⟩ | ⟨k', h1, h2, h3, h4, h5⟩
  · have := of_decide_eq_false (h2 k (by omega) (by omega))
    exact absurd hx this
  · have h4' : sA v 8 k' = x1 := of_decide_eq_true h4
    have : k' = k := by
      rcases Nat.lt_trichotomy k' k with z | z | z
      · have := hs k' k z hk
        rw [h4', hx] at this
        exact (Int32.lt_irrefl this).elim
      · exact z
      · have := hs k k' z (by omega)
        rw [h4', hx] at this
        exact (Int32.lt_irrefl this).elim
    rw [h3, this]; exact kk
/-- the workers' names behind a turn of the one at k: it stays, or it has gone -/
def Tn (k w w' : Nat) (r : Int32) (v v' : gS) : Prop := sI v 4 ≤ sI v' 4 ∧
  ((r = 1 ∧ w ≤ w' ∧ (∀ i, i < w → sA v' 8 i = sA v 8 i) ∧ (∀ i, w ≤ i → i < w' → sI v 4 ≤ sA v' 8 i)) ∨
  (r = 0 ∧ w - 1 ≤ w' ∧ (∀ i, i < w - 1 → sA v' 8 i = sA v 8 (if i < k then i else i + 1)) ∧ (∀ i, w - 1 ≤ i → i < w' → sI v 4 ≤ sA v' 8 i)))
theorem Tn_same {k : Nat} {v' : gS} (e4 : sI v' 4 = sI v 4) (e8 : ∀ i, sA v' 8 i = sA v 8 i) : Tn k w w 1 v v' := ⟨by rw [e4]; exact Int32.le_refl _, Or.inl ⟨rfl, Nat.le_refl _, fun i _ => e8 i, fun i a b => by omega⟩⟩
theorem j_turn {k : Nat} {x1 : Int32} (hK : KMI KMv) (hBm : B + 1 < 2147483647) (hn : n ≤ 1000000000) (h : RR n B KMv K j 0 w q e 24 24 60 u v) (hk : k < w) (hx1 : sA v 8 k = x1) :
    ∃ r u' v' w' q', (∀ post : Int32 → gS → Prop, post r u' → wpX0_staysAfterTurn K post u (iN k)) ∧ (∀ post : gS → Prop, post v' → wpM6_turn KMv post v x1) ∧ RR n (B + 1) KMv K j 0 w' q' e 24 24 60 u' v' ∧ Tn k w w' r v v' ∧ sI v' 0 = sI v 0 := by
  have ip := RR_ip h
  have hj := ip.1.1
  have hw := ip.1.2.1
  have e3 := ip.2.1.2.1
  have e2u : sI u 2 = iN w := h.2.2.1.1
  have rp := h.2.2.2.2.2.2.2.1
  have rwk := h.2.2.2.2.2.2.2.2.1 k hk
  have vb := h.2.2.2.2.2.2.2.2.2.2.2.2.1
  have vk : vp_in (iN k) 8 := iN_in (by omega) (by omega)
  have nk : (iN k).toNatClampNeg = k := iN_nat (by omega)
  have hWm : aW u k ∈ K.2.1 := (rp.1 k (by omega)).2
  have cls : ∀ post : Int32 → gS → Prop, (∀ r5 : Option Nat, r5 = sQ u 4 (aW u k) → (((r5 = none → (narrow .boolean (.int 1) = .int 1 ∧ post 1 u)) ∧ (∀ y6 : Nat, r5 = some y6 → (∀ u7 : gS, u7 = tA u 3 (aW u k) ((sA u 3 (aW u k)) - 1) → ((((sA u7 3 (aW u k)) ≤ 0 → (∀ r9 : Option Nat, r9 = sQ u7 4 (aW u k) → (∃ y10 : Nat, r9 = some y10 ∧ y10 ∈ K.2.2.1 ∧ (wpX0_performAndEnd K (wpX0_admit 26) (fun (u13 : gS) => ((¬ (sA u13 0 y10) = 4 → (wpX0_freeWorker K (fun (u16 : gS) => narrow .boolean (.int 1) = .int 1 ∧ post 1 u16) u13 (some (aW u k)))) ∧ ((sA u13 0 y10) = 4 → (((¬ (sA u13 2 y10) = 5 → (wpX0_freeWorker K (fun (u19 : gS) => narrow .boolean (.int 1) = .int 1 ∧ post 1 u19) u13 (some (aW u k)))) ∧ ((sA u13 2 y10) = 5 → (wpX0_replaceWorker K (fun (u21 : gS) => narrow .boolean (.int 0) = .int 0 ∧ post 0 u21) u13 (iN k)))))))) u7 y10 0)))) ∧ (¬ (sA u7 3 (aW u k)) ≤ 0 → (narrow .boolean (.int 1) = .int 1 ∧ post 1 u7))))))))) → wpX0_staysAfterTurn K post u (iN k) := fun post kk => by
    refine e_at hw e2u hk ?_
    rw [(rp.1 k (by omega)).1]
    exact ⟨fun z => (by cases z), fun y3 e3' => by cases e3'; exact ⟨hWm, kk⟩⟩
  by_cases h9 : sA v 9 k < 0
  case pos =>
    -- it is idle
    have n4 : sQ u 4 (aW u k) = none := by rw [rwk.1, oJ_neg h9]
    refine ⟨1, u, v, w, q, fun post kk => cls post (fun r5 e5 => ⟨fun _ => ⟨rfl, kk⟩, fun y6 e6 => by rw [e5, n4] at e6; cases e6⟩), fun post kk => f_name h (by omega) hk hx1 ⟨fun z => absurd z (iN_nneg (by omega)), fun _ => ⟨vk, fun z => ?_, fun _ => kk⟩⟩, RR_B h (by omega), Tn_same rfl (fun _ => rfl), rfl⟩
    rw [nk] at z
    exact absurd h9 (Int32.not_lt.mpr z)
  case neg =>
  obtain ⟨x0, hx0, ex0⟩ : ∃ b, b < j ∧ sA v 9 k = iN b := by
    rcases ip.2.2.1 k hk with z | z
    · exact absurd z h9
    · exact z
  have h9' : 0 ≤ sA v 9 k := Int32.not_lt.mp h9
  have s4 : sQ u 4 (aW u k) = some (aA K x0) := by rw [rwk.1, ex0, oJ_N (by omega)]
  have mx := (h.1.2 x0 hx0).2.1
  have hL := RR_left (s := sA v 10 k - 1) h hk
  have eL : sA u 3 (aW u k) = sA v 10 k := rwk.2.1
  have run : sA v 4 x0 = 2 := by
    rcases vb.1 k x0 hk hx0 ex0 with z | z
    · exact z
    · omega
  by_cases hl : sA v 10 k - 1 ≤ 0
  case neg =>
    refine ⟨1, tA u 3 (aW u k) (sA v 10 k - 1), tA v 10 k (sA v 10 k - 1), w, q, fun post kk => cls post (fun r5 e5 => ⟨fun z => (by rw [e5, s4] at z; cases z), fun y6 e6 u7 e7 => ?_⟩), fun post kk => f_name h (by omega) hk hx1 ⟨fun z => absurd z (iN_nneg (by omega)), fun _ => ⟨vk, fun _ => ⟨vk, vk, fun u5 e5 => ?_⟩, fun z => ?_⟩⟩, RR_B hL (by omega), Tn_same rfl (fun _ => rfl), rfl⟩
    · rw [eL] at e7
      subst e7
      exact ⟨fun z => absurd (show sA v 10 k - 1 ≤ 0 by rw [tA_eq] at z; exact z) hl, fun _ => ⟨rfl, kk⟩⟩
    · rw [nk] at e5
      subst e5
      rw [nk]
      exact ⟨vk, fun z => absurd (show sA v 10 k - 1 ≤ 0 by rw [tA_eq] at z; exact z) hl, fun _ => kk⟩
    · rw [nk] at z
      exact absurd h9' z
  case pos =>
  -- it has done its job
  have hP := RR_push2 hL hx0 run
  have hPi := RR_ip hP
  have kc : 1 + cN (sA (mPush (tA v 10 k (sA v 10 k - 1)) 0 x0) 4) j ≤ 25 := hPi.2.2.2.2.2.2.2.2.2.2.1
  have p4 : sA (mPush (tA v 10 k (sA v 10 k - 1)) 0 x0) 4 x0 = 2 := by rw [mPush_4, tA_eq]
  obtain ⟨u', v', w', q', gx, gm, gR, gk, g34, gN, gQ⟩ := j_perform (x0 := x0) hK (by omega) (cN (sA (mPush (tA v 10 k (sA v 10 k - 1)) 0 x0) 4) j) 26 0 0 w q x0 _ _ hP (by show sA (tA (tA v 10 k (sA v 10 k - 1)) 13 0 (iN x0)) 13 0 = iN x0; rw [tA_eq]) (by show sA (tA (tA (tA v 10 k (sA v 10 k - 1)) 13 0 (iN x0)) 14 0 0) 14 0 = 0; rw [tA_eq]) hx0 p4 (fun _ => by rw [p4]; decide) (fun _ => rfl) (Nat.le_refl _) (by omega) (by omega)
  have ip' := RR_ip gR
  have hw' := ip'.1.2.1
  have e3' := ip'.2.1.2.1
  obtain ⟨nl, wa, wb, ow, _, ea, eb, n8, nn⟩ := gN.1.2.2
  have hwa : w = wa := (iN_inj (by omega) (by omega)).mp (e3.symm.trans ea)
  have hwb : w' = wb := (iN_inj (by omega) (by omega)).mp (e3'.symm.trans eb)
  subst hwa hwb
  have n8' : ∀ i, i < w → sA v' 8 i = sA v 8 i := n8
  have nn' : ∀ i, w ≤ i → i < w' → sI v 4 ≤ sA v' 8 i := nn
  have nl' : sI v 4 ≤ sI v' 4 := nl
  have k0' : sI v' 0 = sI v 0 := gN.1.1
  have hk' : k < w' := by omega
  have b9 : sA v' 9 k = iN x0 := by
    obtain ⟨wc, wd, _, _, ec, _, _, q9⟩ := gk.1
    have hwc : w = wc := (iN_inj (by omega) (by omega)).mp (e3.symm.trans ec)
    subst hwc
    exact (q9 k hk h9).trans ex0
  have hWk : aW u' k = aW u k := by unfold aW; rw [gQ k]; rfl
  have r0' : sA u' 0 (aA K x0) = sA v' 4 x0 := gR.2.2.2.1 x0 hx0
  have r2' : sA u' 2 (aA K x0) = sA v' 7 x0 := gR.2.2.2.2.2.1 x0 hx0
  have hx1' : sA v' 8 k = x1 := (n8' k hk).trans hx1
  have vx : vp_in (iN x0) 24 := iN_in (by omega) (by omega)
  have nx : (iN x0).toNatClampNeg = x0 := iN_nat (by omega)
  have ph : ∀ post : gS → Prop, post v' → wpM6_perform KMv post (tA v 10 k (sA v 10 k - 1)) (iN x0) := fun post kk x1' e1' => by
    have e10 : sI (tA v 10 k (sA v 10 k - 1)) 10 = iN 0 := ip.2.1.2.2.2.2
    rw [e10] at e1'
    subst e1'
    refine m_push (t := 0) e10 (by omega) (by omega) (gm 0 _ _ (Nat.le_refl _) ⟨1, fun _ => kk, fun z => absurd ?_ z⟩)
    rw [ip'.2.1.2.2.2.2]
    exact Int32.le_refl _
  -- what both do with the worker then
  have both : ∀ (r : Int32) (u2 v2 : gS), (∀ post : Int32 → gS → Prop, post r u2 → xTe K post (aW u k) (iN k) (aA K x0) u') → (∀ post : gS → Prop, post v2 → mTe KMv post (iN k) x0 v') → (∀ post : Int32 → gS → Prop, post r u2 → wpX0_staysAfterTurn K post u (iN k)) ∧ (∀ post : gS → Prop, post v2 → wpM6_turn KMv post v x1) := fun r u2 v2 hx hm => by
    refine ⟨fun post kk => cls post (fun r5 e5 => ⟨fun z => (by rw [e5, s4] at z; cases z), fun y6 e6 u7 e7 => ?_⟩), fun post kk => f_name h (by omega) hk hx1 ⟨fun z => absurd z (iN_nneg (by omega)), fun _ => ⟨vk, fun _ => ⟨vk, vk, fun u5 e5 => ?_⟩, fun z => ?_⟩⟩⟩
    · rw [eL] at e7
      subst e7
      refine ⟨fun _ r9 e9 => ⟨aA K x0, e9.trans s4, mx, gx _ (hx post kk)⟩, fun z => absurd (by rw [tA_eq]; exact hl) z⟩
    · rw [nk] at e5
      subst e5
      rw [nk]
      refine ⟨vk, fun _ => ⟨vk, fun x7 e7 => ?_⟩, fun z => absurd (by rw [tA_eq]; exact hl) z⟩
      have e7' : x7 = iN x0 := e7.trans ex0
      rw [e7', nx]
      exact ph _ (f_name gR (by omega) hk' hx1' ⟨vx, hm post kk⟩)
    · rw [nk] at z
      exact absurd h9' z
  have ne1 : sA v' 4 x0 ≠ 1 := by rcases g34 with z | z <;> (rw [z]; decide)
  have ne2 : sA v' 4 x0 ≠ 2 := by rcases g34 with z | z <;> (rw [z]; decide)
  by_cases hrep : sA v' 4 x0 = 4 ∧ sA v' 7 x0 = 5
  case neg =>
    -- it takes the next, or rests
    obtain ⟨u2, v2, q2, tx, tm, tR, t8, t4, _, t0, _⟩ := j_takeNext gR hn hk' hx0 b9 ne1 ne2
    rw [hWk] at tx
    obtain ⟨hX, hM⟩ := both 1 u2 v2 (fun post kk => ⟨fun _ => tx _ ⟨rfl, kk⟩, fun z4 => ⟨fun _ => tx _ ⟨rfl, kk⟩, fun z5 => absurd ⟨r0'.symm.trans z4, r2'.symm.trans z5⟩ hrep⟩⟩) (fun post kk => ⟨fun _ => tm _ kk, fun z4 => ⟨vx, fun _ => tm _ kk, fun z5 => absurd ⟨z4, z5⟩ hrep⟩⟩)
    refine ⟨1, u2, v2, w', q2, hX, hM, RR_B tR (by omega), ⟨by rw [t4]; exact nl', Or.inl ⟨rfl, ow, fun i hi => (t8 i).trans (n8' i hi), fun i h1 h2 => by rw [t8]; exact nn' i h1 h2⟩⟩, t0.trans k0'⟩
  case pos =>
  -- it goes, and a new one comes where somebody waits
  have ho : ∀ i, i < j → sA v' 9 k = iN i → sA v' 4 i ≠ 2 := fun i hi ei => by
    have : i = x0 := (iN_inj (by omega) (by omega)).mp (ei.symm.trans b9)
    rw [this]; exact ne2
  have e2' : sI u' 2 = iN w' := gR.2.2.1.1
  have rp' := gR.2.2.2.2.2.2.2.1
  have vb' := gR.2.2.2.2.2.2.2.2.2.2.2.2.1
  have hD0 := RR_rw gR hk' ho
  have nobody : ∀ k2, k2 < w' - 1 → x0 < j → sA (mRw (tI v' 3 (iN (w' - 1))) k (w' - 1)) 9 k2 = iN x0 → sA (mRw (tI v' 3 (iN (w' - 1))) k (w' - 1)) 4 x0 = 2 := fun k2 hk2 _ ez => by
    exfalso
    have ez' : sh (sA v' 9) k (w' - 1) k2 = iN x0 := ez
    rw [sh_at _ _ _ _ hk2] at ez'
    have := vb'.2 _ k (by split <;> omega) hk' (by rw [ez']; exact iN_nneg (by omega)) (ez'.trans b9.symm)
    split at this <;> omega
  have hD : RR n B KMv K j 0 (w' - 1) q' e 24 24 60 (xDis u' k w') (mRw (tI v' 3 (iN (w' - 1))) k (w' - 1)) := RR_x0 hD0 nobody
  have d8 : ∀ i, i < w' - 1 → sA (mRw (tI v' 3 (iN (w' - 1))) k (w' - 1)) 8 i = sA v' 8 (if i < k then i else i + 1) := fun i hi => by
    show sh (sA v' 8) k (w' - 1) i = _
    rw [sh_at _ _ _ _ hi]
  have TnR : ∀ (v2 : gS) (w2 : Nat), w' - 1 ≤ w2 → (∀ i, i < w' - 1 → sA v2 8 i = sA (mRw (tI v' 3 (iN (w' - 1))) k (w' - 1)) 8 i) → (∀ i, w' - 1 ≤ i → i < w2 → sI v' 4 ≤ sA v2 8 i) → sI v' 4 ≤ sI v2 4 → Tn k w w2 0 v v2 := fun v2 w2 hw2 h8 hnew h4 => by
    refine ⟨Int32.le_trans nl' h4, Or.inr ⟨rfl, by omega, fun i hi => ?_, fun i h1 h2 => ?_⟩⟩
    · rw [h8 i (by omega), d8 i (by omega)]
      exact n8' _ (by split <;> omega)
    · by_cases hi : i < w' - 1
      · rw [h8 i hi, d8 i hi, if_neg (by omega)]
        exact nn' (i + 1) (by omega) (by omega)
      · exact Int32.le_trans nl' (hnew i (by omega) h2)
  have cx : ∀ (u2 : gS), (∀ post : gS → Prop, post u2 → wpX2_takeFirst K (fun (r3 : Option Nat) (u4 : gS) => ((r3 = none → (post u4)) ∧ (∀ y5 : Nat, r3 = some y5 → (y5 ∈ K.2.2.1 ∧ (wpX1_hire K (fun (u8 : gS) => post u8) u4 y5))))) (xDis u' k w') (sD (xDis u' k w') 0)) → ∀ post : Int32 → gS → Prop, post 0 u2 → xTe K post (aW u k) (iN k) (aA K x0) u' := fun u2 hh post kk =>
    ⟨fun z => absurd (r0'.trans hrep.1) z, fun _ => ⟨fun z => absurd (r2'.trans hrep.2) z, fun _ => e_dismiss hw' e2' hk' rp'.1 (hh _ ⟨rfl, kk⟩)⟩⟩
  have cm : ∀ (v2 : gS), (∀ post : gS → Prop, post v2 → wpM6_fetch KMv (fun (r20 : Int32) (u21 : gS) => ((r20 < 0 → (post u21)) ∧ (¬ r20 < 0 → (wpM6_newWorker KMv (fun (u24 : gS) => post u24) u21 r20)))) (mRw (tI v' 3 (iN (w' - 1))) k (w' - 1))) → ∀ post : gS → Prop, post v2 → mTe KMv post (iN k) x0 v' := fun v2 hh post kk =>
    ⟨fun z => absurd hrep.1 z, fun _ => ⟨vx, fun z => absurd hrep.2 z, fun _ => f_removeWorker hw' e3' hk' (hh _ kk)⟩⟩
  rcases j_fetch hD hn with ⟨q0, hx, hm⟩ | ⟨b, q0, hb, eb, sb, hx, hm, hR, hno⟩
  · obtain ⟨hX, hM⟩ := both 0 _ _ (cx (xDis u' k w') (fun post kk => hx _ ⟨fun _ => kk, fun y5 e5 => (by cases e5)⟩)) (cm _ (fun post kk => hm _ ⟨fun _ => kk, fun z => absurd (by decide) z⟩))
    exact ⟨0, _, _, w' - 1, q', hX, hM, RR_B hD (by omega), TnR _ _ (Nat.le_refl _) (fun _ _ => rfl) (fun i a b => by omega) (Int32.le_refl _), k0'⟩
  · have mb := (h.1.2 b hb).2.1
    have vbD := hD.2.2.2.2.2.2.2.2.2.2.2.2.1
    have nb : ∀ k2, k2 < w' - 1 → sA (mFetch (mRw (tI v' 3 (iN (w' - 1))) k (w' - 1)) q') 9 k2 ≠ iN b := fun k2 hk2 ez => by
      rcases vbD.1 k2 b hk2 hb ez with z | z
      · rw [sb] at z; exact absurd z (by decide)
      · omega
    have hN := RR_new (B' := B + 1) (y := b) hR (by omega) (by omega) hb (Or.inr rfl) (Or.inl (Nat.le_refl _)) hno nb
    have hN2 := RR_x hN (Or.inl (by rw [mNew_4, tA_eq]; decide))
    have hw1 : w' - 1 + 1 = w' := by omega
    have e3D : sI (mFetch (mRw (tI v' 3 (iN (w' - 1))) k (w' - 1)) q') 3 = iN (w' - 1) := rfl
    obtain ⟨hX, hM⟩ := both 0 _ _ (cx (xHire K (xTake (xDis u' k w') q') (w' - 1) (aA K b)) (fun post kk => hx _ ⟨fun z => (by cases z), fun y5 e5 => by cases e5; exact ⟨mb, e_hire (by omega) hR.2.2.1.1 hR.2.2.2.2.2.2.2.1.1 kk⟩⟩)) (cm (mNew (mFetch (mRw (tI v' 3 (iN (w' - 1))) k (w' - 1)) q') (w' - 1) b) (fun post kk => hm _ ⟨fun z => absurd z (iN_nneg (by omega)), fun _ => f_newWorker e3D (by omega) (by omega) kk⟩))
    refine ⟨0, _, _, w' - 1 + 1, q' - 1, hX, hM, hN2, TnR _ _ (by omega) (fun i hi => ?_) (fun i a b' => ?_) ?_, ?_⟩
    · rw [mNew_eq]
      show sA (tA (mFetch (mRw (tI v' 3 (iN (w' - 1))) k (w' - 1)) q') 8 (w' - 1) (sI v' 4)) 8 i = _
      rw [tA_ne (by omega)]; rfl
    · rw [mNew_eq]
      show sI v' 4 ≤ sA (tA (mFetch (mRw (tI v' 3 (iN (w' - 1))) k (w' - 1)) q') 8 (w' - 1) (sI v' 4)) 8 i
      rw [show i = w' - 1 by omega, tA_eq]; exact Int32.le_refl _
    · rw [mNew_eq]
      show sI v' 4 ≤ sI v' 4 + 1
      obtain ⟨c, e4, hc, _, _⟩ := gR.2.2.2.2.2.2.2.2.2.2.2.2.2.1
      rw [e4, iN_succ]; exact (iN_le (by omega) (by omega)).mpr (by omega)
    · rw [mNew_eq]; exact k0'
end TRN
