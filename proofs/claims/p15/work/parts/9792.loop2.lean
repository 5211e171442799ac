/-! the reference's loop: the job on top ends -/
def mPop (v : gS) (T : Nat) : gS := tI (tI v 10 (iN T)) 8 (sI v 8 + 1)
section LP2
variable {KMv : KM} {T y b z : Nat} {v : gS} {post : gS → Prop} {l1 : Int32}
theorem l_2 {m : Nat} (hT : T < 60) (et : sI v 10 = iN (T + 1)) (hb : b ≤ T) (hs0 : ¬ sA v 14 T = 0) (hs1 : ¬ sA v 14 T = 1) (hd : sA v 13 T = iN y) (hy : y < 24)
    (k : vp_in (iN y) 24 ∧ (∀ x11 : Int32, x11 = sA (mPop v T) 5 y → (vp_in (iN y) 24 ∧ (((¬ (sA (mPop v T) 4 y) = 3 → (wpM6_perform_10 KMv post m l1 (iN b) (mPop v T))) ∧ ((sA (mPop v T) 4 y) = 3 → (((x11 < 0 → (wpM6_perform_10 KMv post m l1 (iN b) (mPop v T))) ∧ (¬ x11 < 0 → (vp_in x11 24 ∧ (((¬ (sA (mPop v T) 4 x11.toNatClampNeg) = 0 → (wpM6_perform_10 KMv post m l1 (iN b) (mPop v T))) ∧ ((sA (mPop v T) 4 x11.toNatClampNeg) = 0 → (wpM6_place KMv (fun (r15 : Int32) (u16 : gS) => ((r15 = 0 → (wpM6_perform_10 KMv post m l1 (iN b) u16)) ∧ (¬ r15 = 0 → (wpM6_push KMv (fun (u19 : gS) => wpM6_perform_10 KMv post m l1 (iN b) u19) u16 x11)))) (mPop v T) x11)))))))))))))) : ∃ m, wpM6_perform_10 KMv post m l1 (iN b) v := by
  have vT : vp_in (iN T) 60 := iN_in (by omega) (by omega)
  refine ⟨m + 1, fun z => ?_, fun _ x5 e5 => ?_⟩
  · rw [et] at z
    have := (iN_le (by omega) (by omega)).mp z; omega
  · rw [et, iN_pred (by omega), show T + 1 - 1 = T by omega] at e5
    subst e5
    refine ⟨vT, fun x6 e6 => ⟨vT, fun _ => ⟨vT, fun _ u9 e9 u10 e10 => ?_, fun z' => ?_⟩, fun z' => ?_⟩⟩
    · rw [iN_nat (by omega), hd] at e6
      rw [et, iN_pred (by omega), show T + 1 - 1 = T by omega] at e9
      have e10' : u10 = mPop v T := by rw [e10, e9]; rfl
      rw [e10', e6, iN_nat (by omega)]
      exact k
    · rw [iN_nat (by omega)] at z'
      exact absurd z' hs1
    · rw [iN_nat (by omega)] at z'
      exact absurd z' hs0
theorem l_2e (hT : T < 60) (et : sI v 10 = iN (T + 1)) (hb : b ≤ T) (hs0 : ¬ sA v 14 T = 0) (hs1 : ¬ sA v 14 T = 1) (hd : sA v 13 T = iN y) (hy : y < 24) (hx : sA v 4 y ≠ 3 ∨ sA v 5 y < 0 ∨ ∃ z, z < 24 ∧ sA v 5 y = iN z ∧ sA v 4 z ≠ 0) (k : ∃ m, wpM6_perform_10 KMv post m l1 (iN b) (mPop v T)) : ∃ m, wpM6_perform_10 KMv post m l1 (iN b) v := by
  obtain ⟨m, k⟩ := k
  have vy : vp_in (iN y) 24 := iN_in (by omega) (by omega)
  refine l_2 (m := m) hT et hb hs0 hs1 hd hy ⟨vy, fun x11 e11 => ⟨vy, fun _ => k, fun h3 => ⟨fun _ => k, fun h5 => ?_⟩⟩⟩
  have e11' : x11 = sA v 5 y := e11
  rcases hx with hx | hx | ⟨z, hz, ez, hz0⟩
  · exact absurd h3 hx
  · rw [e11'] at h5; exact absurd hx h5
  · rw [e11', ez, iN_nat (by omega)]
    exact ⟨iN_in (by omega) (by omega), fun _ => k, fun h0 => absurd h0 hz0⟩
theorem l_2p {v' : gS} (hT : T < 60) (et : sI v 10 = iN (T + 1)) (hb : b ≤ T) (hs0 : ¬ sA v 14 T = 0) (hs1 : ¬ sA v 14 T = 1) (hd : sA v 13 T = iN y) (hy : y < 24) (h3 : sA v 4 y = 3) (hz : z < 24) (ez : sA v 5 y = iN z) (h0 : sA v 4 z = 0) (hp : ∀ post' : Int32 → gS → Prop, post' 0 v' → wpM6_place KMv post' (mPop v T) (iN z)) (k : ∃ m, wpM6_perform_10 KMv post m l1 (iN b) v') : ∃ m, wpM6_perform_10 KMv post m l1 (iN b) v := by
  obtain ⟨m, k⟩ := k
  have vy : vp_in (iN y) 24 := iN_in (by omega) (by omega)
  refine l_2 (m := m) hT et hb hs0 hs1 hd hy ⟨vy, fun x11 e11 => ⟨vy, fun z' => absurd h3 z', fun _ => ?_⟩⟩
  have e11' : x11 = iN z := e11.trans ez
  rw [e11', iN_nat (by omega)]
  exact ⟨fun z' => absurd z' (iN_nneg (by omega)), fun _ => ⟨iN_in (by omega) (by omega), fun z' => absurd h0 z', fun _ => hp _ ⟨fun _ => k, fun z' => absurd rfl z'⟩⟩⟩
theorem l_2q (hT : T < 60) (et : sI v 10 = iN (T + 1)) (hb : b ≤ T) (hs0 : ¬ sA v 14 T = 0) (hs1 : ¬ sA v 14 T = 1) (hd : sA v 13 T = iN y) (hy : y < 24) (h3 : sA v 4 y = 3) (hz : z < 24) (ez : sA v 5 y = iN z) (h0 : sA v 4 z = 0) (hp : ∀ post' : Int32 → gS → Prop, post' 1 (mPop v T) → wpM6_place KMv post' (mPop v T) (iN z)) (k : ∃ m, wpM6_perform_10 KMv post m l1 (iN b) (mPush (mPop v T) T z)) : ∃ m, wpM6_perform_10 KMv post m l1 (iN b) v := by
  obtain ⟨m, k⟩ := k
  have vy : vp_in (iN y) 24 := iN_in (by omega) (by omega)
  refine l_2 (m := m) hT et hb hs0 hs1 hd hy ⟨vy, fun x11 e11 => ⟨vy, fun z' => absurd h3 z', fun _ => ?_⟩⟩
  have e11' : x11 = iN z := e11.trans ez
  rw [e11', iN_nat (by omega)]
  exact ⟨fun z' => absurd z' (iN_nneg (by omega)), fun _ => ⟨iN_in (by omega) (by omega), fun z' => absurd h0 z', fun _ => hp _ ⟨fun z' => absurd z' (by decide), fun _ => m_push (t := T) rfl (by omega) hz k⟩⟩⟩
end LP2
