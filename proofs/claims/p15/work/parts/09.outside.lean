def xSup : List String := ["java/lang/RuntimeException", "java/lang/Exception"]
def xSup1 : List String := ["java/lang/Exception"]
/-- words that are kept, but not by the common row -/
def xFace : List Cond := [.castable "java/lang/IllegalArgumentException" "java/lang/IllegalArgumentException", .castable "java/util/NoSuchElementException" "java/util/NoSuchElementException", .castable "java/lang/IllegalStateException" "java/lang/IllegalStateException", .castable "java/lang/UnsupportedOperationException" "java/lang/UnsupportedOperationException", .castable "java/lang/ArithmeticException" "java/lang/ArithmeticException", .castable "java/lang/IndexOutOfBoundsException" "java/lang/IndexOutOfBoundsException", .declares (Bundle.initS "java/lang/RuntimeException"), .declares (Bundle.initS "java/lang/Exception"), .declares (Bundle.initS Bundle.tN)]
theorem xFace_face : ∀ w ∈ xFace, w.faceAtom = true ∧ w.onTables = true := by decide +kernel
theorem tw_iae_in : ∀ w ∈ (vx_atS RX0 108 "java/lang/IllegalArgumentException" xSup).filter goodWord, w ∈ gW := by
  have h : ((vx_atS RX0 108 "java/lang/IllegalArgumentException" xSup).filter goodWord).all (fun w => decide (w ∈ lw_tbl)) = true := by decide +kernel
  intro w hw
  exact List.mem_filter.mpr ⟨of_decide_eq_true (List.all_eq_true.mp h w hw), (List.mem_filter.mp hw).2⟩
theorem tw_iae {args : Array Value} {s : State} (hts : ∀ w ∈ gW, w.before args s = true) (hc : ∀ w ∈ xFace, va_Nw w s) : ∀ w ∈ vx_atS RX0 108 "java/lang/IllegalArgumentException" xSup, w.before args s = true :=
  vx_hat (B := xFace) (fun w hw => hts w (tw_iae_in w hw)) (by decide +kernel) (fun w hw => va_tabs (xFace_face w hw).2 rfl (hc w hw))
theorem tg_iae : ∀ w ∈ Cond.classLink RX0 104 "java/lang/IllegalArgumentException" :: Cond.initialized "java/lang/IllegalArgumentException" :: vx_atS RX0 108 "java/lang/IllegalArgumentException" xSup, vx_ot w = true := by decide +kernel
theorem tw_nse_in : ∀ w ∈ (vn_at RX0 150 "java/util/NoSuchElementException" "java/lang/RuntimeException" 13 prog_19_method_4_code xSup1).filter goodWord, w ∈ gW := by
  have h : ((vn_at RX0 150 "java/util/NoSuchElementException" "java/lang/RuntimeException" 13 prog_19_method_4_code xSup1).filter goodWord).all (fun w => decide (w ∈ lw_tbl)) = true := by decide +kernel
  intro w hw
  exact List.mem_filter.mpr ⟨of_decide_eq_true (List.all_eq_true.mp h w hw), (List.mem_filter.mp hw).2⟩
theorem tw_nse {args : Array Value} {s : State} (hts : ∀ w ∈ gW, w.before args s = true) (hc : ∀ w ∈ xFace, va_Nw w s) : ∀ w ∈ vn_at RX0 150 "java/util/NoSuchElementException" "java/lang/RuntimeException" 13 prog_19_method_4_code xSup1, w.before args s = true :=
  vx_hat (B := xFace) (fun w hw => hts w (tw_nse_in w hw)) (by decide +kernel) (fun w hw => va_tabs (xFace_face w hw).2 rfl (hc w hw))
theorem tg_nse : ∀ w ∈ Cond.classLink RX0 146 "java/util/NoSuchElementException" :: Cond.initialized "java/util/NoSuchElementException" :: vn_at RX0 150 "java/util/NoSuchElementException" "java/lang/RuntimeException" 13 prog_19_method_4_code xSup1, vx_ot w = true := by decide +kernel
theorem tw_ise_in : ∀ w ∈ (vx_atS RX0 80 "java/lang/IllegalStateException" xSup).filter goodWord, w ∈ gW := by
  have h : ((vx_atS RX0 80 "java/lang/IllegalStateException" xSup).filter goodWord).all (fun w => decide (w ∈ lw_tbl)) = true := by decide +kernel
  intro w hw
  exact List.mem_filter.mpr ⟨of_decide_eq_true (List.all_eq_true.mp h w hw), (List.mem_filter.mp hw).2⟩
theorem tw_ise {args : Array Value} {s : State} (hts : ∀ w ∈ gW, w.before args s = true) (hc : ∀ w ∈ xFace, va_Nw w s) : ∀ w ∈ vx_atS RX0 80 "java/lang/IllegalStateException" xSup, w.before args s = true :=
  vx_hat (B := xFace) (fun w hw => hts w (tw_ise_in w hw)) (by decide +kernel) (fun w hw => va_tabs (xFace_face w hw).2 rfl (hc w hw))
theorem tg_ise : ∀ w ∈ Cond.classLink RX0 76 "java/lang/IllegalStateException" :: Cond.initialized "java/lang/IllegalStateException" :: vx_atS RX0 80 "java/lang/IllegalStateException" xSup, vx_ot w = true := by decide +kernel
theorem tw_uoe_in : ∀ w ∈ (vx_atS RX0 103 "java/lang/UnsupportedOperationException" xSup).filter goodWord, w ∈ gW := by
  have h : ((vx_atS RX0 103 "java/lang/UnsupportedOperationException" xSup).filter goodWord).all (fun w => decide (w ∈ lw_tbl)) = true := by decide +kernel
  intro w hw
  exact List.mem_filter.mpr ⟨of_decide_eq_true (List.all_eq_true.mp h w hw), (List.mem_filter.mp hw).2⟩
theorem tw_uoe {args : Array Value} {s : State} (hts : ∀ w ∈ gW, w.before args s = true) (hc : ∀ w ∈ xFace, va_Nw w s) : ∀ w ∈ vx_atS RX0 103 "java/lang/UnsupportedOperationException" xSup, w.before args s = true :=
  vx_hat (B := xFace) (fun w hw => hts w (tw_uoe_in w hw)) (by decide +kernel) (fun w hw => va_tabs (xFace_face w hw).2 rfl (hc w hw))
theorem tg_uoe : ∀ w ∈ Cond.classLink RX0 99 "java/lang/UnsupportedOperationException" :: Cond.initialized "java/lang/UnsupportedOperationException" :: vx_atS RX0 103 "java/lang/UnsupportedOperationException" xSup, vx_ot w = true := by decide +kernel
theorem tw_aex_in : ∀ w ∈ (vx_atS RX0 158 "java/lang/ArithmeticException" xSup).filter goodWord, w ∈ gW := by
  have h : ((vx_atS RX0 158 "java/lang/ArithmeticException" xSup).filter goodWord).all (fun w => decide (w ∈ lw_tbl)) = true := by decide +kernel
  intro w hw
  exact List.mem_filter.mpr ⟨of_decide_eq_true (List.all_eq_true.mp h w hw), (List.mem_filter.mp hw).2⟩
theorem tw_aex {args : Array Value} {s : State} (hts : ∀ w ∈ gW, w.before args s = true) (hc : ∀ w ∈ xFace, va_Nw w s) : ∀ w ∈ vx_atS RX0 158 "java/lang/ArithmeticException" xSup, w.before args s = true :=
  vx_hat (B := xFace) (fun w hw => hts w (tw_aex_in w hw)) (by decide +kernel) (fun w hw => va_tabs (xFace_face w hw).2 rfl (hc w hw))
theorem tg_aex : ∀ w ∈ Cond.classLink RX0 154 "java/lang/ArithmeticException" :: Cond.initialized "java/lang/ArithmeticException" :: vx_atS RX0 158 "java/lang/ArithmeticException" xSup, vx_ot w = true := by decide +kernel
theorem tw_ioe_in : ∀ w ∈ (vx_atS RX0 163 "java/lang/IndexOutOfBoundsException" xSup).filter goodWord, w ∈ gW := by
  have h : ((vx_atS RX0 163 "java/lang/IndexOutOfBoundsException" xSup).filter goodWord).all (fun w => decide (w ∈ lw_tbl)) = true := by decide +kernel
  intro w hw
  exact List.mem_filter.mpr ⟨of_decide_eq_true (List.all_eq_true.mp h w hw), (List.mem_filter.mp hw).2⟩
theorem tw_ioe {args : Array Value} {s : State} (hts : ∀ w ∈ gW, w.before args s = true) (hc : ∀ w ∈ xFace, va_Nw w s) : ∀ w ∈ vx_atS RX0 163 "java/lang/IndexOutOfBoundsException" xSup, w.before args s = true :=
  vx_hat (B := xFace) (fun w hw => hts w (tw_ioe_in w hw)) (by decide +kernel) (fun w hw => va_tabs (xFace_face w hw).2 rfl (hc w hw))
theorem tg_ioe : ∀ w ∈ Cond.classLink RX0 159 "java/lang/IndexOutOfBoundsException" :: Cond.initialized "java/lang/IndexOutOfBoundsException" :: vx_atS RX0 163 "java/lang/IndexOutOfBoundsException" xSup, vx_ot w = true := by decide +kernel
theorem dN_0 : decode prog_19_method_4_code 0 = .ok (.aload_n 0, 1) := by decide +kernel
theorem dN_1 : decode prog_19_method_4_code 1 = .ok (.aload_n 1, 1) := by decide +kernel
theorem dN_2 : decode prog_19_method_4_code 2 = .ok (.invokespecial 13, 3) := by decide +kernel
theorem dN_5 : decode prog_19_method_4_code 5 = .ok (.return_, 1) := by decide +kernel
def xTexts : List (Nat × String) := [(78, "no more jobs can be made"), (93, "the job is not new"), (101, "the job is refused"), (106, "a job can not follow on itself"), (109, "the job is over"), (125, "the job can not be cancelled"), (148, "the job has no result"), (156, "the job divided by zero"), (161, "the job picked beyond the row"), (164, "the job could not fork"), (166, "the job failed"), (175, "the clock takes no entry"), (195, "the pool is not open"), (207, "there is no such worker"), (225, "no job was taken from the queue"), (230, "the clock is empty"), (239, "a number is out of range"), (244, "there is no such job")]
def xPicks (j : Nat) : Int32 := if j = 0 then 2 else if j = 1 then 3 else if j = 2 then 5 else 7
/-- what the class finds outside its world -/
def xE (A : Nat → Prop) (U : State) (H : Heap) : Prop :=
  (∃ t : Nat, va_Z "WorkHall" "PICKS" "[I" (.ref t) A U H ∧ va_T .int t 4 (fun j => .int (xPicks j)) A U H) ∧
  vx_Zq Bundle.tN "UNASSIGNED_STACK" Bundle.steD A U H ∧ vx_Zq Bundle.tN "SUPPRESSED_SENTINEL" Bundle.listD A U H ∧
  (∀ q ∈ xTexts, ∃ sa : Nat, vk_R RX0 q.1 q.2 sa U) ∧ (∀ w ∈ xFace, va_Nw w U) ∧ va_Nw (.fieldLinkNest RX5 47 RX0 "PICKS" "[I" RX0) U
theorem g_face {w : Cond} {u U : State} (hf : w.faceAtom = true ∧ w.onTables = true) (hv : u.vm.Alike U.vm) (h : va_Nw w u) : va_Nw w U :=
  va_tabs hf.2 (rfl : (u.setVm U.vm).vm = U.vm) (Cond.faceAtom_setVm (args := #[]) hv w hf.1 h)
theorem xE_ok : gE xE := by
  refine ⟨?_, ?_, ?_⟩
  · intro A u U H hW h
    obtain ⟨⟨t, hZ, hT⟩, hU, hN, hx, hc, hn⟩ := h
    exact ⟨⟨t, hZ.moved hW.alike, hT.moved hW.alike⟩, hU.moved hW.alike, hN.moved hW.alike, fun q hq => by obtain ⟨sa, h⟩ := hx q hq; exact ⟨sa, h.warm hW⟩, fun w hw => g_face (xFace_face w hw) hW.alike (hc w hw), va_Nw.warmF hW hn⟩
  · intro A U H H1 hk h
    obtain ⟨⟨t, hZ, hT⟩, hU, hN, hr⟩ := h
    exact ⟨⟨t, hZ.kept hk, hT.kept hk⟩, hU.kept hk, hN.kept hk, hr⟩
  · intro A B U H hAB h
    obtain ⟨⟨t, hZ, hT⟩, hU, hN, hr⟩ := h
    exact ⟨⟨t, hZ.narrow hAB, hT.narrow hAB⟩, hU.narrow hAB, hN.narrow hAB, hr⟩
section XE
variable {A : Nat → Prop} {U : State} {H : Heap}
theorem xE_pick (h : xE A U H) : ∃ t : Nat, va_Z "WorkHall" "PICKS" "[I" (.ref t) A U H ∧ va_T .int t 4 (fun j => .int (xPicks j)) A U H := h.1
theorem xE_U (h : xE A U H) : vx_Zq Bundle.tN "UNASSIGNED_STACK" Bundle.steD A U H := h.2.1
theorem xE_N (h : xE A U H) : vx_Zq Bundle.tN "SUPPRESSED_SENTINEL" Bundle.listD A U H := h.2.2.1
theorem xE_text (h : xE A U H) (k : Nat) (t : String) (hm : (k, t) ∈ xTexts) : ∃ sa : Nat, vk_R RX0 k t sa U := h.2.2.2.1 (k, t) hm
theorem xE_face (h : xE A U H) : ∀ w ∈ xFace, va_Nw w U := h.2.2.2.2.1
theorem xE_nest {args : Array Value} (h : xE A U H) : (Cond.fieldLinkNest RX5 47 RX0 "PICKS" "[I" RX0).before args U = true := va_tabs rfl rfl h.2.2.2.2.2
end XE
def mE (_ : Nat → Prop) (_ : State) (_ : Heap) : Prop := True
theorem mE_ok : gE mE := ⟨fun _ _ _ _ _ h => h, fun _ _ _ _ _ h => h, fun _ _ _ _ _ h => h⟩
