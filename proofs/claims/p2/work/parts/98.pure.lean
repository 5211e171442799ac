/-! class and reference side by side: what both keep, and that they have made as many jobs -/
def pN (k : Nat) : Int := 30000 * ((k : Int) + 1)
def pInv (KMv : KM) (k : Nat) (K : KX) (u v : gS) : Prop :=
  KMI KMv ∧ KI K ∧ ∃ j w q e : Nat, K.1 4 = iN j ∧ IX (pN k) K u ∧ IP (pN k) j 0 w q e 24 60 v
theorem lg_cmp_self (x : Int64) : lg_cmp x x = 0 := by
  unfold lg_cmp
  simp
theorem pInv_of {KMv : KM} {k : Nat} {K : KX} {u v : gS} {n m : Int} {j w q e : Nat} (hM : KMI KMv) (hK : KI K) (ej : K.1 4 = iN j) (hX : IX n K u) (hP : IP m j 0 w q e 24 60 v) (hn : n ≤ pN (k + 1)) (hm : m ≤ pN (k + 1)) : pInv KMv (k + 1) K u v :=
  ⟨hM, hK, j, w, q, e, ej, IX_mono hX hn, IP_mono hP hm⟩
theorem pInv_job {KMv : KM} {k : Nat} {K : KX} {u v : gS} {f : Nat → Int64} {g : Nat → UInt64} {a1 a2 a3 a4 : Int32} (hN : pN k ≤ pN (k + 1)) (h : pInv KMv k K u v) : wpC_0 KMv (pInv KMv (k + 1)) K u v f g a1 a2 a3 a4 := by
  obtain ⟨hM, hK, j, w, q, e, ej, hX, hP⟩ := h
  have hj := hP.1.1
  unfold wpC_0
  obtain ⟨c, hc, ec, hl⟩ := id hK
  have hcj : c = j := (iN_inj (by omega) (by omega)).mp (ec.symm.trans ej)
  subst hcj
  refine l_job hc ec (fun bad => ?_) (fun hok h24 => ?_) (fun hok hlt q' => ?_)
  · refine m_job hP (fun _ r v' hv hs => ⟨fun _ => ⟨fun _ => pInv_of hM hK ej hX hv hN hN, fun h => absurd h (by decide)⟩, fun h => h hs⟩) (fun hok => absurd bad hok) (fun hok => absurd bad hok)
  · refine m_job hP (fun bad => absurd bad hok) (fun _ _ r v' hv hs => ⟨fun _ => ⟨fun _ => pInv_of hM hK ej hX hv hN hN, fun h => absurd h (by decide)⟩, fun h => h hs⟩) (fun _ hlt => by omega)
  · refine m_job hP (fun bad => absurd bad hok) (fun _ h24 => by omega) (fun _ _ v' w' e' hv hs => ⟨fun _ => ⟨fun h => absurd rfl h, fun _ => ⟨fun _ => ?_, fun hne => hne ?_⟩⟩, fun h => h hs⟩)
    · have hkj := KI_job (q := q') (p1 := a1) (p2 := a2) (p3 := a3) (p4 := a4) hlt ec hl
      exact pInv_of hM hkj.1 hkj.2 (IX_job hX) hv hN hN
    · show lg_cmp (vp_updL f (0 : Int32).toNatClampNeg (iN c).toInt64 (0 : Int32).toNatClampNeg) (iN c).toInt64 = 0
      rw [show vp_updL f (0 : Int32).toNatClampNeg (iN c).toInt64 (0 : Int32).toNatClampNeg = (iN c).toInt64 from by simp [vp_updL]]
      exact lg_cmp_self _
/-- an eighth -/
theorem d18 : Jvm.FP.Core.DFin 4593671619917905920 := ⟨_, _, _, rfl⟩
theorem pInv_step (p1 p2 p3 p4 : Int32) : lObl (mK0 p1 p2 p3 p4) (pInv (mK0 p1 p2 p3 p4)) := by
  intro k K u v f g a1 a2 a3 a4 hk h
  generalize mK0 p1 p2 p3 p4 = KMv at h ⊢
  have hN : pN k ≤ pN (k + 1) := by unfold pN; omega
  have hN1 : pN k + 1000 ≤ pN (k + 1) := by unfold pN; omega
  have hN2 : pN k + 25000 ≤ pN (k + 1) := by unfold pN; omega
  have h0 : 0 ≤ pN k := by unfold pN; omega
  have hn : pN k ≤ 900000000 := by unfold pN; omega
  have hn' : pN k ≤ 1000000000 := by omega
  refine ⟨pInv_job hN h, ?_⟩
  obtain ⟨hM, hK, j, w, q, e, ej, hX, hP⟩ := h
  have fin : ∀ (z : gS) (v' : gS) (w' q' e' : Nat), IX (pN k) K z → IP (pN k) j 0 w' q' e' 24 60 v' → pInv KMv (k + 1) K z v' := fun z v' w' q' e' hz hv => pInv_of hM hK ej hz hv hN hN
  refine ⟨?_, ?_, ?_, ?_, ?_, ?_, ?_, ?_, ?_, ?_, ?_, ?_, ?_, fin u v w q e hX hP⟩
  · exact l_submit hK hX (fun c z hz => m_submit hM hP (fun r v' w' q' e' hv => fin _ _ _ _ _ hz hv))
  · exact l_then hK hX (fun c z hz => m_then hP (fun r v' w' q' e' hv => fin _ _ _ _ _ hz hv))
  · exact l_step hn' hK hX (fun c z hz => m_step hn' hM hP (fun r v' w' q' e' hv => fin _ _ _ _ _ hz hv))
  · exact fun b _ => l_cancel hn' hK hX (fun c z hz => m_cancel hn' hP (fun r v' w' q' e' hv => fin _ _ _ _ _ hz hv))
  · exact l_get hK hX (fun c z hz => m_get hP (fun r v' w' q' e' hv => fin _ _ _ _ _ hz hv))
  · have hd : Jvm.FP.Core.DFin 4593671619917905920 := d18
    exact ⟨dN_n64 (dN_mul hd), fun t32 _ => ⟨dN_n64 (dN_mul hd), fun t33 _ => l_clock hn' hK hX (fun c z hz => m_clock hn' hP (fun r v' w' q' e' hv => pInv_of hM hK ej hz hv hN1 hN1))⟩⟩
  · have hd : Jvm.FP.Core.DFin 4593671619917905920 := d18
    exact ⟨dN_n64 (dN_mul hd), fun t38 _ => l_tick h0 hn hK hX (fun c z hz => m_tick h0 hn hM hP (fun r v' w' q' e' hv => pInv_of hM hK ej hz hv hN2 hN2))⟩
  · exact fun b _ => l_shut hX (fun c z hz => m_shut hP (fun r v' w' q' e' hv => fin _ _ _ _ _ hz hv))
  · exact l_about hK hX (fun c z hz => m_about hP (fun r v' w' q' e' hv => fin _ _ _ _ _ hz hv))
  · exact l_worker hX (fun c z hz => m_worker hP (fun r v' w' q' e' hv => fin _ _ _ _ _ hz hv))
  · exact l_count hX (fun c z hz => m_count hP (fun r v' w' q' e' hv => fin _ _ _ _ _ hz hv))
  · exact l_delay hX (fun c z hz => m_delay hP (fun r v' w' q' e' hv => fin _ _ _ _ _ hz hv))
  · exact l_due hX (fun c z hz => m_due hP (fun r v' w' q' e' hv => fin _ _ _ _ _ hz hv))
theorem mClamp_in {x lo hi : Int32} (h : lo ≤ hi) : lo ≤ mClamp x lo hi ∧ mClamp x lo hi ≤ hi := by
  unfold mClamp
  by_cases h1 : lo ≤ x
  · rw [if_pos h1]
    by_cases h2 : x ≤ hi
    · rw [if_pos h2]; exact ⟨h1, h2⟩
    · rw [if_neg h2]; exact ⟨h, Int32.le_refl _⟩
  · rw [if_neg h1]; exact ⟨Int32.le_refl _, h⟩
theorem iN_btw {x : Int32} {c : Nat} (h0 : 0 ≤ x) (h1 : x ≤ iN c) (hc : c < 2147483647) : ∃ a, a ≤ c ∧ x = iN a := by
  have hb : x.toNatClampNeg < 2147483648 := by
    have : x.toNatClampNeg = x.toInt.toNat := rfl
    have := x.toInt_lt
    omega
  refine ⟨x.toNatClampNeg, ?_, iN_of h0⟩
  rw [iN_of h0] at h1
  exact (iN_le hb (by omega)).mp h1
theorem mK0_0 (p1 p2 p3 p4 : Int32) : mK0 p1 p2 p3 p4 0 = mClamp p1 0 3 := by simp [mK0, va_up]
theorem mK0_1 (p1 p2 p3 p4 : Int32) : mK0 p1 p2 p3 p4 1 = mClamp p2 (if mClamp p1 0 3 ≤ 1 then 1 else mClamp p1 0 3) 5 := by simp [mK0, va_up]
theorem mK0_2 (p1 p2 p3 p4 : Int32) : mK0 p1 p2 p3 p4 2 = mClamp p3 0 4 := by simp [mK0, va_up]
theorem mlo {x : Int32} (h : 0 ≤ x ∧ x ≤ 3) : (0 : Int32) ≤ (if x ≤ 1 then 1 else x) ∧ (if x ≤ 1 then 1 else x) ≤ 5 := by
  by_cases h1 : x ≤ 1
  · rw [if_pos h1]; exact ⟨by decide, by decide⟩
  · rw [if_neg h1]; exact ⟨h.1, Int32.le_trans h.2 (by decide)⟩
theorem n3 : (3 : Int32) = iN 3 := by decide
theorem n4 : (4 : Int32) = iN 4 := by decide
theorem n5 : (5 : Int32) = iN 5 := by decide
theorem KMI_start (p1 p2 p3 p4 : Int32) : KMI (mK0 p1 p2 p3 p4) := by
  have c0 := mClamp_in (x := p1) (lo := 0) (hi := 3) (by decide)
  have clo := mlo c0
  have c1 := mClamp_in (x := p2) clo.2
  have c2 := mClamp_in (x := p3) (lo := 0) (hi := 4) (by decide)
  have b1 := Int32.le_trans clo.1 c1.1
  refine ⟨?_, ?_, ?_⟩
  · rw [mK0_0]
    have h := c0.2
    have h' := c0.1
    clear clo c1 b1
    generalize mClamp p1 0 3 = z at *
    rw [n3] at h
    exact iN_btw h' h (by omega)
  · rw [mK0_1]
    have h := c1.2
    generalize mClamp p2 (if mClamp p1 0 3 ≤ 1 then 1 else mClamp p1 0 3) 5 = z at *
    rw [n5] at h
    exact iN_btw b1 h (by omega)
  · rw [mK0_2]
    have h := c2.2
    have h' := c2.1
    generalize mClamp p3 0 4 = z at *
    rw [n4] at h
    exact iN_btw h' h (by omega)
theorem pInv_start (p1 p2 p3 p4 : Int32) (w : Nat → Nat) : pInv (mK0 p1 p2 p3 p4) 0 (xK0 p1 p2 p3 p4, [w 0, w 1, w 2, w 3, w 4], [], (fun _ _ => 0), (fun _ => none)) (xU0 w) mU0 := by
  have z : ∀ {n : Int}, 0 ≤ n → dB n 0 := fun h => dB_zero h
  have zN : dN 0 := (z (n := 0) (by omega)).1
  have hp : (0 : Int) ≤ pN 0 := by unfold pN; omega
  refine ⟨KMI_start p1 p2 p3 p4, ⟨0, by omega, rfl, fun i hi => by omega⟩, 0, 0, 0, 0, rfl, ?_, ?_⟩
  · refine ⟨⟨0, by omega, rfl⟩, ⟨0, by omega, rfl, fun i hi => by omega⟩, ⟨0, by omega, rfl, fun i hi => by omega⟩, fun i hi => ?_, (fun q y e => by cases e), (fun q y e => by cases e), z hp, zN, fun _ => z hp, fun _ => z hp, fun _ => z (by omega), fun _ => z hp⟩
    rcases (show i = 0 ∨ i = 1 ∨ i = 2 ∨ i = 3 ∨ i = 4 by omega) with rfl | rfl | rfl | rfl | rfl
    · exact ⟨w 0, by simp, rfl⟩
    · exact ⟨w 1, by simp, rfl⟩
    · exact ⟨w 2, by simp, rfl⟩
    · exact ⟨w 3, by simp, rfl⟩
    · exact ⟨w 4, by simp, rfl⟩
  · exact ⟨⟨by omega, by omega, by omega, by omega⟩, ⟨rfl, rfl, rfl, rfl, rfl⟩, fun i hi => by omega, fun i hi => by omega, fun i hi => by omega, fun i hi => by omega, fun i hi => by omega, fun i hi => by omega, fun i hi => rfl, fun f hf => by omega, Nat.zero_le _, z hp, zN, fun _ => z hp, fun _ => z hp, fun _ => z hp, fun _ => z (by omega)⟩
