/-! class and reference side by side, call by call -/
theorem pInv_step (p1 p2 p3 p4 : Int32) : lObl (mK0 p1 p2 p3 p4) (pInv (mK0 p1 p2 p3 p4)) := by
  intro k K u v f g a1 a2 a3 a4 hk h
  generalize mK0 p1 p2 p3 p4 = KMv at h ⊢
  have hN : pN k ≤ pN (k + 1) := by unfold pN; omega
  have hN1 : pN k + 1000 ≤ pN (k + 1) := by unfold pN; omega
  have hN2 : pN k + 25000 ≤ pN (k + 1) := by unfold pN; omega
  have h0 : 0 ≤ pN k := by unfold pN; omega
  have hn8 : pN k ≤ 800000000 := by unfold pN; omega
  have hn : pN k ≤ 1000000000 := by omega
  have hB0 : pB k ≤ pB (k + 1) := by unfold pB; omega
  have hB1 : pB k + 1 ≤ pB (k + 1) := by unfold pB; omega
  have hB50 : pB k + 50 ≤ pB (k + 1) := by unfold pB; omega
  have hBm : pB k + 50 < 2147483647 := by unfold pB; omega
  have hd : Jvm.FP.Core.DFin 4593671619917905920 := d18
  obtain ⟨hM, j, w, q, e, hR, hE⟩ := h
  have fin : ∀ {n : Int} {B : Nat}, n ≤ pN (k + 1) → B ≤ pB (k + 1) → ∀ u' v' : gS, JR n B KMv K j u' v' → pInv KMv (k + 1) K u' v' := fun a b u' v' h' => pInv_of hM h' a b
  refine ⟨j_job hR hE (fun K' j' u' v' h' => pInv_of hM h' hN hB1), ?_, ?_, ?_, ?_, ?_, ?_, ?_, ?_, ?_, ?_, ?_, ?_, ?_, fin hN hB0 u v ⟨w, q, e, hR, hE⟩⟩
  · exact JW_go (J := pInv KMv (k + 1) K) (JA.weak (j_submit hM (by omega) hR hE)) (fin hN hB0)
  · exact JW_go (J := pInv KMv (k + 1) K) (j_then hR hE) (fin hN hB0)
  · exact JW_go (J := pInv KMv (k + 1) K) (JA.weak (j_step hM hn hBm hR hE)) (fin hN hB50)
  · exact fun b _ => JW_go (J := pInv KMv (k + 1) K) (JA.weak (j_cancel hn hR hE)) (fin hN hB0)
  · exact JW_go (J := pInv KMv (k + 1) K) (JA.weak (j_get hR hE)) (fin hN hB0)
  · exact ⟨dN_n64 (dN_mul hd), fun t32 _ => ⟨dN_n64 (dN_mul hd), fun t33 _ => JW_go (J := pInv KMv (k + 1) K) (JA.weak (j_clock hn hR hE)) (fin hN1 hB0)⟩⟩
  · exact ⟨dN_n64 (dN_mul hd), fun t38 _ => JW_go (J := pInv KMv (k + 1) K) (JA.weak (j_tick hM h0 hn8 (by omega) hR hE)) (fin hN2 hB50)⟩
  · exact fun b _ => JW_go (J := pInv KMv (k + 1) K) (JA.weak (j_shut hR hE)) (fin hN hB0)
  · exact JW_go (J := pInv KMv (k + 1) K) (JA.weak (j_about hR hE)) (fin hN hB0)
  · exact JW_go (J := pInv KMv (k + 1) K) (JA.weak (j_worker hR hE)) (fin hN hB0)
  · exact JW_go (J := pInv KMv (k + 1) K) (JA.weak (j_count hR hE)) (fin hN hB0)
  · exact JD_go (J := pInv KMv (k + 1) K) (j_delay hR hE) (fin hN hB0)
  · obtain ⟨c, r, u', v', hx, hm, hc0, hRel, hdr⟩ := j_due (fd := g) hR hE
    unfold wpC_13
    refine hx _ (hm _ ⟨fun _ => ⟨fun _ => fin hN hB0 _ _ hRel, fun hc => ⟨fun _ => fin hN hB0 _ _ hRel, fun hne => absurd ?_ hne⟩⟩, fun hne => hne hc0⟩)
    show Op.cmpValue (FP.dcmp ((if c = 0 then vf_upd g (0 : Int32).toNatClampNeg r else g) (0 : Int32).toNatClampNeg) r) .l = 0
    rw [if_pos hc, show vf_upd g (0 : Int32).toNatClampNeg r (0 : Int32).toNatClampNeg = r from by simp [vf_upd], show FP.dcmp r r = some .eq from Jvm.FP.Core.dcmp_self hdr]
    rfl
