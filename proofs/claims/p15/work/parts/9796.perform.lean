/-! class and reference: performAndEnd against the reference's loop, by the number of NEW jobs -/
section JPM
variable {n : Int} {B : Nat} {KMv : KM} {K : KX} {j t w q e x x0 g T y : Nat} {u v : gS}
theorem j_perform (hK : KMI KMv) (hBm : B < 2147483647) : ∀ c, IHt n B KMv K j e x0 c := by
  intro c
  induction c using Nat.strongRecOn with
  | ind c IH =>
  intro f d T w q y u v h hd hs hy h2 hx0 hyb hc hf hdc
  have ip := RR_ip h
  have hj := ip.1.1
  have hw := ip.1.2.1
  have kc : T + 1 + cN (sA v 4) j ≤ 25 := ip.2.2.2.2.2.2.2.2.2.2.1
  have hT : T < 60 := by omega
  have et := ip.2.1.2.2.2.2
  have e3 := ip.2.1.2.1
  have e1 := ip.2.1.1
  have hy24 : y < 24 := by omega
  have hA : RR n B KMv K j (T + 1) w q e 24 x0 T u (tA v 14 T 2) := RR_14 h (IP_stg2 ip (by omega))
  have hkA : Kp j T v v := ⟨Ext.same hw e3 e3 (fun _ => rfl) (fun _ => rfl), fun _ _ => rfl, fun _ _ => ⟨rfl, rfl⟩, fun _ => rfl, fun _ hi => hi, Nat.le_refl _⟩
  have hnA : Nk y v v := Nk_same (fun _ => rfl) rfl (fun _ => rfl) (Sc0_r hw e3 ⟨rfl, rfl, rfl, rfl, fun _ => rfl⟩)
  have n1 : sA v 4 y ≠ 1 := by rw [h2]; decide
  have s14 : ∀ i, i < T → sA (tA v 14 T 2) 14 i = sA v 14 i := fun i hi => tA_ne (by omega)
  have u4 : ∀ (s : Int32) (i : Nat), sA (tA (tA v 14 T 2) 4 y s) 4 i = sA (tA v 4 y s) 4 i := fun s i => by
    by_cases hiy : i = y
    · rw [hiy, tA_eq, tA_eq]
    · rw [tA_ne hiy, tA_ne hiy]; rfl
  -- both DONE, or both FAILED, by the deed alone
  have easy : ∀ (s : Int32) (u1 v1 : gS), s = 3 ∨ s = 4 → RR n B KMv K j (T + 1) w q e 24 x0 60 u1 v1 → sI v1 3 = sI v 3 → (∀ i, sA v1 8 i = sA v 8 i) → (∀ i, sA v1 9 i = sA v 9 i) → (∀ i, sA v1 13 i = sA v 13 i) → (∀ i, sA v1 14 i = sA (tA v 14 T 2) 14 i) → (∀ i, sA v1 1 i = sA v 1 i) → (∀ i, sA v1 4 i = sA (tA v 4 y s) 4 i) → Sc0 v v1 → Qw u u1 → (∀ post : gS → Prop, xTail K (wpX0_admit f) post (aA K y) (iN d) u1 → wpX0_performAndEnd K (wpX0_admit f) post u (aA K y) (iN d)) → (∀ post, post v1 → wpM6_performOne KMv post v (iN T)) → JF n B KMv K j e x0 f d T u v y := fun s u1 v1 h34 hR k3 k8 k9 k13 k14 k1 k4 k0 kq hx hm =>
    j_rest hK hBm IH h34 hy hx0 hc hf hdc hkA hnA hR h2 ⟨w, hw, e3⟩ k3 k8 k9 k13 (fun i hi => (k14 i).trans (s14 i hi)) k1 k4 k0 kq ((k13 T).trans hd) ((k14 T).trans tA_eq) hx (fun b post l1 hb k => l_0 hT et hb hs hm k)
  have deed : JO KMv K u v T y → JF n B KMv K j e x0 f d T u v y := fun hJ => by
    rcases hJ with ⟨r, hx, hm⟩ | ⟨r, hx, hm⟩
    · exact easy 3 _ _ (Or.inl rfl) (RR_done (r := r) hA hd hy n1 hyb) rfl (fun _ => rfl) (fun _ => rfl) (fun _ => rfl) (fun _ => rfl) (fun _ => rfl) (u4 3) (Sc0_r hw e3 ⟨rfl, rfl, rfl, rfl, fun _ => rfl⟩) (fun _ => rfl) (fun post k => hx _ _ _ k) hm
    · exact easy 4 _ _ (Or.inr rfl) (RR_broke (r := r) hA hd hy n1 hyb) rfl (fun _ => rfl) (fun _ => rfl) (fun _ => rfl) (fun _ => rfl) (fun _ => rfl) (u4 4) (Sc0_r hw e3 ⟨rfl, rfl, rfl, rfl, fun _ => rfl⟩) (fun _ => rfl) (fun post k => hx _ _ _ k) hm
  by_cases k4 : sA v 0 y = 4
  case neg =>
    by_cases k2 : sA v 0 y = 2
    · exact deed (j_op2 h.1 hT hy hj hd k2)
    · by_cases k3 : sA v 0 y = 3
      · exact deed (j_op3 h.1 h.2.2.2.1 h.2.2.2.2.1 e1 hT hy hj hd k3)
      · refine deed (j_op015 h.1 hT hy hj hd ?_)
        by_cases k0 : sA v 0 y = 0
        · exact Or.inl k0
        · by_cases k1 : sA v 0 y = 1
          · exact Or.inr (Or.inl k1)
          · exact Or.inr (Or.inr ⟨k0, k1, k2, k3, k4⟩)
  case pos =>
  have kk := (h.1.2 y hy).2.2.2.1
  have pf : ∀ post : gS → Prop, wpX0_fork K (wpX0_admit f) (xTail K (wpX0_admit f) post (aA K y) (iN d)) u (aA K y) (iN d) → wpX0_performAndEnd K (wpX0_admit f) post u (aA K y) (iN d) := fun post k => e_perf4 (by rw [kk, k4]; decide) (by rw [kk, k4]; decide) (by rw [kk, k4]; decide) (by rw [kk, k4]; decide) (kk.trans k4) k
  have no : ((sA v 1 y < 0 ∨ iN j ≤ sA v 1 y) ∨ ∃ z, z < j ∧ sA v 1 y = iN z ∧ sA v 4 z ≠ 0) → JF n B KMv K j e x0 f d T u v y := fun hno =>
    easy 4 _ _ (Or.inr rfl) (RR_broke (r := 4) hA hd hy n1 hyb) rfl (fun _ => rfl) (fun _ => rfl) (fun _ => rfl) (fun _ => rfl) (fun _ => rfl) (u4 4) (Sc0_r hw e3 ⟨rfl, rfl, rfl, rfl, fun _ => rfl⟩) (fun _ => rfl) (fun post k => pf post (e_forkN h.1 h.2.2.2.1 hj hy hno k)) (fun post k => f_oneF hT hy24 hd k4 (f_forkN (v := tA v 14 T 2) hy24 hj e1 hno k))
  rcases num_or hj (sA v 1 y) with ⟨z, hz, ez⟩ | hout
  case inr => exact no (Or.inl hout)
  by_cases nz : sA v 4 z = 0
  case neg => exact no (Or.inr ⟨z, hz, ez, nz⟩)
  have hzy : y ≠ z := fun ee => by rw [ee, nz] at h2; exact absurd h2 (by decide)
  have c1 := cN_st (v := v) (j := j) (y := z) (s := 2) hz (by decide) nz
  obtain ⟨f', rfl⟩ : ∃ f', f = f' + 1 := ⟨f - 1, by omega⟩
  rcases j_place (d := d + 1) hK hA hBm hz nz hx0 (by omega) with ⟨u', v', w', q', hx, hm, hR, hpl, hst, hne, _, hNq, _, hqw⟩ | ⟨_, hx, hm⟩
  · -- its target has a place
    have hk0 : Kp j T v v' := by
      have a := Kp_Pl (T := T) hpl hst
      exact ⟨a.1, a.2.1, fun f hf => ⟨(a.2.2.1 f hf).1, (a.2.2.1 f hf).2.trans (s14 f hf)⟩, a.2.2.2⟩
    have hn0 : Nk y v v' := Nk_Nq (v := tA v 14 T 2) hNq nz
    have y2 : sA v' 4 y = 2 := by
      rcases (hNq.2 y hy24 hzy).1 with g | g
      · exact g.trans h2
      · exact absurd (show sA v 4 y = 1 from g.1) n1
    have d' : sA v' 13 T = iN y := (hpl.2.1 T).trans hd
    have s' : sA v' 14 T = 2 := (hpl.2.2.1 T).trans tA_eq
    have b' : Bs v' y → y = x0 := fun zz => hyb ((hn0.2 y hy24 (by rw [h2]; decide)).2 zz)
    have ip' := RR_ip hR
    have r0' : sA u' 0 (aA K z) = sA v' 4 z := hR.2.2.2.1 z hz
    by_cases h6 : sA v' 4 z = 6
    · exact j_rest hK hBm IH (Or.inr rfl) hy hx0 hc hf hdc hk0 hn0 (RR_broke (r := 4) hR d' hy (by rw [y2]; decide) b') y2 ⟨w', ip'.1.2.1, ip'.2.1.2.1⟩ rfl (fun _ => rfl) (fun _ => rfl) (fun _ => rfl) (fun _ _ => rfl) (fun _ => rfl) (fun _ => rfl) (Sc0_r ip'.1.2.1 ip'.2.1.2.1 ⟨rfl, rfl, rfl, rfl, fun _ => rfl⟩) hqw d' s'
        (fun post k => pf post (e_forkY h.1 h.2.2.2.1 hj hy hz ez nz (fun post' k' => hx f' post' k') (fun _ => k) (fun g => absurd (r0'.trans h6) g)))
        (fun b post l1 hb k => l_0 hT et hb hs (fun post' k' => f_oneF hT hy24 hd k4 (f_forkP (v := tA v 14 T 2) hy24 hj e1 hz ez nz hm (fun _ => k') (fun g => absurd h6 g))) k)
    · exact j_rest hK hBm IH (Or.inl rfl) hy hx0 hc hf hdc hk0 hn0 (RR_done (r := sA v' 4 z) hR d' hy (by rw [y2]; decide) b') y2 ⟨w', ip'.1.2.1, ip'.2.1.2.1⟩ rfl (fun _ => rfl) (fun _ => rfl) (fun _ => rfl) (fun _ _ => rfl) (fun _ => rfl) (fun _ => rfl) (Sc0_r ip'.1.2.1 ip'.2.1.2.1 ⟨rfl, rfl, rfl, rfl, fun _ => rfl⟩) hqw d' s'
        (fun post k => pf post (e_forkY h.1 h.2.2.2.1 hj hy hz ez nz (fun post' k' => hx f' post' k') (fun g => absurd (r0'.symm.trans g) h6) (fun _ => by rw [r0']; exact k)))
        (fun b post l1 hb k => l_0 hT et hb hs (fun post' k' => f_oneF hT hy24 hd k4 (f_forkP (v := tA v 14 T 2) hy24 hj e1 hz ez nz hm (fun g => absurd g h6) (fun _ => k'))) k)
  · -- its target is performed at once
    have hB1 : RR n B KMv K j (T + 1) w q e 24 x0 60 u (tA (tA v 14 T 2) 14 T 1) := RR_14 hA (IP_stg1 (RR_ip hA) hd hy hz ez)
    have hP := RR_push hB1 hz nz hx0
    have hkq : Kp j (T + 1) (tA (tA v 14 T 2) 14 T 1) (mPush (tA (tA v 14 T 2) 14 T 1) (T + 1) z) := Kp_push (RR_ip hB1) nz
    have hqk : Kp j T v (mPush (tA (tA v 14 T 2) 14 T 1) (T + 1) z) := by
      have a := hkq.mono (show T ≤ T + 1 by omega)
      refine ⟨a.1, a.2.1, fun f hf => ⟨(a.2.2.1 f hf).1, (a.2.2.1 f hf).2.trans ?_⟩, a.2.2.2⟩
      rw [tA_ne (by omega)]; exact s14 f hf
    have hqn : Nk y v (mPush (tA (tA v 14 T 2) 14 T 1) (T + 1) z) := Nk_Nq (z := z) (Nq_same (fun i hi => by rw [mPush_4, tA_ne hi]; rfl) rfl (fun _ => rfl) (Sc0_r hw e3 ⟨rfl, rfl, rfl, rfl, fun _ => rfl⟩)) nz
    have hcc : cN (sA (mPush (tA (tA v 14 T 2) 14 T 1) (T + 1) z) 4) j ≤ c - 1 := by
      rw [show sA (mPush (tA (tA v 14 T 2) 14 T 1) (T + 1) z) 4 = sA (tA (tA (tA v 14 T 2) 14 T 1) 4 z 2) 4 from funext (mPush_4 _ _ z)]
      have := cN_st (v := tA (tA v 14 T 2) 14 T 1) (j := j) (y := z) (s := 2) hz (by decide) nz
      have e : cN (sA (tA (tA v 14 T 2) 14 T 1) 4) j = cN (sA v 4) j := rfl
      omega
    obtain ⟨u', v', w', q', gx, gm, gR, gk, g34, gN, gQ⟩ := IH (c - 1) (by omega) f' (d + 1) (T + 1) w q z _ _ hP (by show sA (tA (tA (tA v 14 T 2) 14 T 1) 13 (T + 1) (iN z)) 13 (T + 1) = iN z; rw [tA_eq]) (by show sA (tA (tA (tA (tA v 14 T 2) 14 T 1) 13 (T + 1) (iN z)) 14 (T + 1) 0) 14 (T + 1) = 0; rw [tA_eq]) hz (by rw [mPush_4, tA_eq]) (fun hj0 => hqk.2.2.2.2.1 x0 (hx0 hj0)) (fun zz => Bs_x0 hB1 hz (by show sA v 4 z ≠ 2; rw [nz]; decide) (Bs_same rfl (fun _ => rfl) zz)) hcc (by omega) (by omega)
    have hk0 : Kp j T v v' := hqk.trans (gk.mono (by omega))
    have hn0 : Nk y v v' := hqn.trans gN hqk.2.2.2.2.1 (Or.inr (Or.inl nz))
    have py : sA (mPush (tA (tA v 14 T 2) 14 T 1) (T + 1) z) 4 y = 2 := by rw [mPush_4, tA_ne hzy]; exact h2
    have y2 : sA v' 4 y = 2 := ((gN.2 y hy24 (by rw [py]; decide)).1 hzy (by rw [py]; decide)).trans py
    have b' : Bs v' y → y = x0 := fun zz => hyb ((hn0.2 y hy24 (by rw [h2]; decide)).2 zz)
    have d' : sA v' 13 T = iN y := ((gk.2.2.1 T (by omega)).1.trans (hkq.2.2.1 T (by omega)).1).trans hd
    have s' : sA v' 14 T = 1 := ((gk.2.2.1 T (by omega)).2.trans (hkq.2.2.1 T (by omega)).2).trans tA_eq
    have a' : sA v' 1 y = iN z := (hk0.2.2.2.1 y).trans ez
    have ip' := RR_ip gR
    have r0' : sA u' 0 (aA K z) = sA v' 4 z := gR.2.2.2.1 z hz
    have h6 : sA v' 4 z ≠ 6 := by rcases g34 with g | g <;> (rw [g]; decide)
    have vq := gR.2.2.2.2.2.2.2.2.2.2.2.1
    have hS : RR n B KMv K j (T + 1) w' q' e 24 x0 60 (tA u' 0 (aA K y) 3) (tA v' 4 y 3) := RR_st gR hy (by decide) (IP_st ip' hy (by decide) (fun z => absurd z (by decide)) (fun z => absurd z (by decide))) (fun k hk ez' => absurd (vq.1 k y hk hy ez') (by rw [y2]; decide)) (fun k hk ez' => Or.inr (b' ⟨w', k, ip'.1.2.1, ip'.2.1.2.1, hk, ez'⟩))
    have hS2 := RR_res (s := sA v' 4 z) hS hy
    have hS3 := RR_14 (T := T) (s := 2) hS2 (IP_stg (RR_ip hS2) d' hy (by show sA (tA v' 4 y 3) 4 y ≠ 2; rw [tA_eq]; decide) (by omega))
    exact j_rest hK hBm IH (Or.inl rfl) hy hx0 hc hf hdc hk0 hn0 hS3 y2 ⟨w', ip'.1.2.1, ip'.2.1.2.1⟩ rfl (fun _ => rfl) (fun _ => rfl) (fun _ => rfl) (fun i hi => tA_ne (v := tA (tA v' 4 y 3) 6 y (sA v' 4 z)) (by omega)) (fun _ => rfl) (fun _ => rfl) (Sc0_r ip'.1.2.1 ip'.2.1.2.1 ⟨rfl, rfl, rfl, rfl, fun _ => rfl⟩) gQ d' tA_eq
      (fun post k => pf post (e_forkY h.1 h.2.2.2.1 hj hy hz ez nz (fun post' k' => hx f' post' (gx post' k')) (fun g => absurd (r0'.symm.trans g) h6) (fun _ => by rw [r0']; exact k)))
      (fun b post l1 hb k => l_0 hT et hb hs (fun post' k' => f_oneF hT hy24 hd k4 (f_forkQ (v := tA v 14 T 2) (by omega) et hy24 hj e1 hz ez nz hm k')) (gm b post l1 (by omega) (l_1 hT ip'.2.1.2.2.2.2 hb s' d' hy24 (by omega) a' k)))
end JPM
