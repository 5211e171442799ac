/-! what the Statement gives at the law's start: what the class finds outside -/
section ST
variable {args : Array Value} {s : State} {A : Nat → Prop}
theorem st_nc (hgv : (Jvm.Cond.and given_1 narrow_1).before args s = true) : ∀ q ∈ nPairs, va_Nc q.1 q.2 s := by
  have hf := flat_of_before _ hgv
  have hm : nPairs.all (fun q => decide (Cond.not (.castable q.1 q.2) ∈ flatC (Jvm.Cond.and given_1 narrow_1))) = true := by decide +kernel
  intro q hq
  exact va_Nc.of (hf _ (of_decide_eq_true (List.all_eq_true.mp hm q hq)))
theorem st_text (hts0 : ∀ w ∈ lw_tbl, w.before args s = true) (hgv : (Jvm.Cond.and given_1 narrow_1).before args s = true) : ∀ q ∈ xTexts, ∃ sa : Nat, vk_R RX0 q.1 q.2 sa s := by
  have hf := flat_of_before _ hgv
  have h1 : xTexts.all (fun q => decide (Cond.stringRef RX0 q.1 q.2 ∈ lw_tbl)) = true := by decide +kernel
  have h2 : xTexts.all (fun q => decide (Cond.exactly (.string RX0 q.1) "java/lang/String" ∈ flatC (Jvm.Cond.and given_1 narrow_1))) = true := by decide +kernel
  intro q hq
  have a1 := hts0 _ (of_decide_eq_true (List.all_eq_true.mp h1 q hq))
  have a2 := hf _ (of_decide_eq_true (List.all_eq_true.mp h2 q hq))
  obtain ⟨a, _, _, _, hv, -⟩ := Cond.exactly_spec a2
  exact ⟨a, vk_R.of (A := args) a1 hv⟩
theorem st_face (hts0 : ∀ w ∈ lw_tbl, w.before args s = true) : ∀ w ∈ xFace, va_Nw w s := by
  have h1 : xFace.all (fun w => decide (w ∈ lw_tbl)) = true := by decide +kernel
  intro w hw
  exact va_tabs (xFace_face w hw).2 rfl (hts0 w (of_decide_eq_true (List.all_eq_true.mp h1 w hw)))
theorem st_pick (hts0 : ∀ w ∈ lw_tbl, w.before args s = true) (hgv : (Jvm.Cond.and given_1 narrow_1).before args s = true) (hA : ∀ a : Nat, a < s.heap.size → ¬ A a) : ∃ t : Nat, va_Z "WorkHall" "PICKS" "[I" (.ref t) A s s.heap ∧ va_T .int t 4 (fun j => .int (xPicks j)) A s s.heap := by
  have hf := flat_of_before _ hgv
  have e0 := va_eqt (hf (Cond.eq (.elem (.static "WorkHall" "PICKS" "[I") (.int 0)) (.int 2)) (by decide +kernel))
  have e1 := va_eqt (hf (Cond.eq (.elem (.static "WorkHall" "PICKS" "[I") (.int 1)) (.int 3)) (by decide +kernel))
  have e2 := va_eqt (hf (Cond.eq (.elem (.static "WorkHall" "PICKS" "[I") (.int 2)) (.int 5)) (by decide +kernel))
  have e3 := va_eqt (hf (Cond.eq (.elem (.static "WorkHall" "PICKS" "[I") (.int 3)) (.int 7)) (by decide +kernel))
  obtain ⟨t, ht, hT⟩ := va_Tof (tm := .static "WorkHall" "PICKS" "[I") (ty := .int) (N := 4) (f := fun j => .int (xPicks j)) (by decide) (hf (Cond.arrayOf (.static "WorkHall" "PICKS" "[I") .int) (by decide +kernel)) (va_eqt (hf (Cond.eq (.length (.static "WorkHall" "PICKS" "[I")) (.int 4)) (by decide +kernel))) (fun j hj => by
    rcases (show j = 0 ∨ j = 1 ∨ j = 2 ∨ j = 3 by omega) with rfl | rfl | rfl | rfl
    · exact e0
    · exact e1
    · exact e2
    · exact e3) hA
  exact ⟨t, va_Zof (hts0 (.laysStatic "WorkHall" "PICKS" "[I") (by decide +kernel)) (hts0 (.initialized "WorkHall") (by decide +kernel)) ht hA, hT⟩
theorem st_xE (hts0 : ∀ w ∈ lw_tbl, w.before args s = true) (hgv : (Jvm.Cond.and given_1 narrow_1).before args s = true) (hA : ∀ a : Nat, a < s.heap.size → ¬ A a) : xE A s s.heap := by
  have hf := flat_of_before _ hgv
  exact ⟨st_pick hts0 hgv hA,
    vx_Zqof (hts0 (.laysStatic Bundle.tN "UNASSIGNED_STACK" Bundle.steD) (by decide +kernel)) (hts0 (.initialized Bundle.tN) (by decide +kernel)) (hf (.isRef (.static Bundle.tN "UNASSIGNED_STACK" Bundle.steD)) (by decide +kernel)) hA,
    vx_Zqof (hts0 (.laysStatic Bundle.tN "SUPPRESSED_SENTINEL" Bundle.listD) (by decide +kernel)) (hts0 (.initialized Bundle.tN) (by decide +kernel)) (hf (.isRef (.static Bundle.tN "SUPPRESSED_SENTINEL" Bundle.listD)) (by decide +kernel)) hA,
    st_text hts0 hgv, st_face hts0, va_tabs (A := args) rfl rfl (hts0 (.fieldLinkNest RX5 47 RX0 "PICKS" "[I" RX0) (by decide +kernel))⟩
theorem st_nE (hts0 : ∀ w ∈ lw_tbl, w.before args s = true) : nE A s s.heap :=
  ⟨hts0 (.arrayOver (.object "WorkHall$Job")) (by decide +kernel), hts0 (.arrayOver (.object "WorkHall$Worker")) (by decide +kernel),
   va_tabs (A := args) rfl rfl (hts0 (.methodLinkNest "WorkHall$Crew" 24 ⟨"WorkHall$Worker", "<init>", "()V"⟩ "WorkHall") (by decide +kernel)), va_tabs (A := args) rfl rfl (hts0 (.methodLinkNest "WorkHall" 24 ⟨"WorkHall$Line", "<init>", "()V"⟩ "WorkHall") (by decide +kernel)), va_tabs (A := args) rfl rfl (hts0 (.methodLinkNest "WorkHall" 31 ⟨"WorkHall$Timetable", "<init>", "()V"⟩ "WorkHall") (by decide +kernel))⟩
end ST
/-- the last place of the script that a call begins at -/
theorem law_idx {L j : Nat} (hL : L ≤ 2564) (hj : j ≤ 5000) (h : ¬ Int32.ofNat L - 5 < iN j) : j + 5 ≤ L := by
  rw [Int32.lt_iff_toInt_lt, iN_toInt (by omega), Int32.toInt_sub, Int32.toInt_ofNat_of_lt (by omega), show (5 : Int32).toInt = 5 from rfl] at h
  have e : ((L : Int) - 5).bmod (2 ^ 32) = (L : Int) - 5 := by
    simp only [Int.bmod]
    split <;> omega
  rw [e] at h
  omega
