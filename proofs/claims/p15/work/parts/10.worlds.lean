/-- what stays: core, most, room, policy, made; the workers; the jobs; what a job is made of; the array of the jobs -/
abbrev KX : Type := (Nat → Int32) × List Nat × List Nat × (Nat → Nat → Int32) × (Nat → Option Nat)
abbrev KM : Type := Nat → Int32
abbrev xT (ca : Nat → ClassId) : List (ClassId × FieldType) := [(ca 0, .object "WorkHall$Job"), (ca 1, .object "WorkHall$Worker"), (ca 2, .double)]
abbrev mT (ca : Nat → ClassId) : List (ClassId × FieldType) := [(ca 0, .int), (ca 1, .double)]
def wXc (ad : Nat → Nat) (ca : Nat → ClassId) (K : KX) (u : gS) : va_W := [
  (ad 0, .inr (0, [.int (K.1 0), .int (K.1 1), .int (K.1 2), .int (K.1 3), .ref (ad 1), .ref (ad 2), .ref (ad 4), .ref (ad 7), .int (K.1 4), .int (sI u 0), .int (sI u 1), .double (sD u 0)])),
  (ad 1, .inl (ca 0, 24, .inr (.inr (.inr (.inr K.2.2.2.2))))),
  (ad 2, .inr (1, [.ref (ad 3), .int (sI u 2), .int (sI u 3)])),
  (ad 3, .inl (ca 1, 5, .inr (.inr (.inr (.inr (sQ u 0)))))),
  (ad 4, .inr (2, [.ref (ad 5), .ref (ad 6), .int (sI u 4), .int (sI u 5), .double (sD u 1)])),
  (ad 5, .inl (ca 0, 4, .inr (.inr (.inr (.inr (sQ u 1)))))),
  (ad 6, .inl (ca 2, 4, .inr (.inr (.inr (.inl (sB u 0)))))),
  (ad 7, .inr (3, [.ref (ad 8), .ref (ad 9), .ref (ad 10), .int (sI u 6)])),
  (ad 8, .inl (ca 0, 10, .inr (.inr (.inr (.inr (sQ u 2)))))),
  (ad 9, .inl (ca 2, 10, .inr (.inr (.inr (.inl (sB u 1)))))),
  (ad 10, .inl (ca 2, 10, .inr (.inr (.inr (.inl (sB u 2))))))]
def xW (K : KX) (u : gS) (a : Nat) : va_E := .inr (4, [va_rf (sQ u 4 a), .int (sA u 3 a), .double (sB u 3 a)])
def xJ (K : KX) (u : gS) (a : Nat) : va_E := .inr (5, [.int (K.2.2.2.1 a 0), .int (K.2.2.2.1 a 1), .int (K.2.2.2.1 a 2), .int (K.2.2.2.1 a 3), .int (K.2.2.2.1 a 4), .int (sA u 0 a), .int (sA u 1 a), .int (sA u 2 a), va_rf (sQ u 3 a)])
def wX (ad : Nat → Nat) (ca : Nat → ClassId) (K : KX) (u : gS) : va_W := ((wXc ad ca K u ++ va_pl K.2.1 (xW K u)) ++ va_pl K.2.2.1 (xJ K u))
theorem wX_f0_phase (ad : Nat → Nat) (ca : Nat → ClassId) (K : KX) (u : gS) (v : Int32) : wX ad ca K (tI u 0 v) = (wX ad ca K u).set 0 (ad 0, .inr (0, ([.int (K.1 0), .int (K.1 1), .int (K.1 2), .int (K.1 3), .ref (ad 1), .ref (ad 2), .ref (ad 4), .ref (ad 7), .int (K.1 4), .int (sI u 0), .int (sI u 1), .double (sD u 0)] : List Value).set 9 (.int v))) := rfl
theorem wX_f0_finished (ad : Nat → Nat) (ca : Nat → ClassId) (K : KX) (u : gS) (v : Int32) : wX ad ca K (tI u 1 v) = (wX ad ca K u).set 0 (ad 0, .inr (0, ([.int (K.1 0), .int (K.1 1), .int (K.1 2), .int (K.1 3), .ref (ad 1), .ref (ad 2), .ref (ad 4), .ref (ad 7), .int (K.1 4), .int (sI u 0), .int (sI u 1), .double (sD u 0)] : List Value).set 10 (.int v))) := rfl
theorem wX_f0_time (ad : Nat → Nat) (ca : Nat → ClassId) (K : KX) (u : gS) (v : UInt64) : wX ad ca K (tD u 0 v) = (wX ad ca K u).set 0 (ad 0, .inr (0, ([.int (K.1 0), .int (K.1 1), .int (K.1 2), .int (K.1 3), .ref (ad 1), .ref (ad 2), .ref (ad 4), .ref (ad 7), .int (K.1 4), .int (sI u 0), .int (sI u 1), .double (sD u 0)] : List Value).set 11 (.double v))) := rfl
theorem wX_f2_size (ad : Nat → Nat) (ca : Nat → ClassId) (K : KX) (u : gS) (v : Int32) : wX ad ca K (tI u 2 v) = (wX ad ca K u).set 2 (ad 2, .inr (1, ([.ref (ad 3), .int (sI u 2), .int (sI u 3)] : List Value).set 1 (.int v))) := rfl
theorem wX_f2_mostSeen (ad : Nat → Nat) (ca : Nat → ClassId) (K : KX) (u : gS) (v : Int32) : wX ad ca K (tI u 3 v) = (wX ad ca K u).set 2 (ad 2, .inr (1, ([.ref (ad 3), .int (sI u 2), .int (sI u 3)] : List Value).set 2 (.int v))) := rfl
theorem wX_f4_size (ad : Nat → Nat) (ca : Nat → ClassId) (K : KX) (u : gS) (v : Int32) : wX ad ca K (tI u 4 v) = (wX ad ca K u).set 4 (ad 4, .inr (2, ([.ref (ad 5), .ref (ad 6), .int (sI u 4), .int (sI u 5), .double (sD u 1)] : List Value).set 2 (.int v))) := rfl
theorem wX_f4_taken (ad : Nat → Nat) (ca : Nat → ClassId) (K : KX) (u : gS) (v : Int32) : wX ad ca K (tI u 5 v) = (wX ad ca K u).set 4 (ad 4, .inr (2, ([.ref (ad 5), .ref (ad 6), .int (sI u 4), .int (sI u 5), .double (sD u 1)] : List Value).set 3 (.int v))) := rfl
theorem wX_f4_waited (ad : Nat → Nat) (ca : Nat → ClassId) (K : KX) (u : gS) (v : UInt64) : wX ad ca K (tD u 1 v) = (wX ad ca K u).set 4 (ad 4, .inr (2, ([.ref (ad 5), .ref (ad 6), .int (sI u 4), .int (sI u 5), .double (sD u 1)] : List Value).set 4 (.double v))) := rfl
theorem wX_f7_size (ad : Nat → Nat) (ca : Nat → ClassId) (K : KX) (u : gS) (v : Int32) : wX ad ca K (tI u 6 v) = (wX ad ca K u).set 7 (ad 7, .inr (3, ([.ref (ad 8), .ref (ad 9), .ref (ad 10), .int (sI u 6)] : List Value).set 3 (.int v))) := rfl
theorem wX_a3 (ad : Nat → Nat) (ca : Nat → ClassId) (K : KX) (u : gS) (i : Nat) (v : Option Nat) : wX ad ca K (tQ u 0 i v) = (wX ad ca K u).set 3 (ad 3, .inl (ca 1, 5, .inr (.inr (.inr (.inr (va_up (sQ u 0) i v)))))) := rfl
theorem wX_a5 (ad : Nat → Nat) (ca : Nat → ClassId) (K : KX) (u : gS) (i : Nat) (v : Option Nat) : wX ad ca K (tQ u 1 i v) = (wX ad ca K u).set 5 (ad 5, .inl (ca 0, 4, .inr (.inr (.inr (.inr (va_up (sQ u 1) i v)))))) := rfl
theorem wX_a6 (ad : Nat → Nat) (ca : Nat → ClassId) (K : KX) (u : gS) (i : Nat) (v : UInt64) : wX ad ca K (tB u 0 i v) = (wX ad ca K u).set 6 (ad 6, .inl (ca 2, 4, .inr (.inr (.inr (.inl (vf_upd (sB u 0) i v)))))) := rfl
theorem wX_a8 (ad : Nat → Nat) (ca : Nat → ClassId) (K : KX) (u : gS) (i : Nat) (v : Option Nat) : wX ad ca K (tQ u 2 i v) = (wX ad ca K u).set 8 (ad 8, .inl (ca 0, 10, .inr (.inr (.inr (.inr (va_up (sQ u 2) i v)))))) := rfl
theorem wX_a9 (ad : Nat → Nat) (ca : Nat → ClassId) (K : KX) (u : gS) (i : Nat) (v : UInt64) : wX ad ca K (tB u 1 i v) = (wX ad ca K u).set 9 (ad 9, .inl (ca 2, 10, .inr (.inr (.inr (.inl (vf_upd (sB u 1) i v)))))) := rfl
theorem wX_a10 (ad : Nat → Nat) (ca : Nat → ClassId) (K : KX) (u : gS) (i : Nat) (v : UInt64) : wX ad ca K (tB u 2 i v) = (wX ad ca K u).set 10 (ad 10, .inl (ca 2, 10, .inr (.inr (.inr (.inl (vf_upd (sB u 2) i v)))))) := rfl
theorem xW_get {ad : Nat → Nat} {ca : Nat → ClassId} {K : KX} {u : gS} {a : Nat} (h : a ∈ K.2.1) : ∃ k : Nat, (wX ad ca K u)[k]? = some (a, xW K u a) := g2_get h
theorem xW_job {ad : Nat → Nat} {ca : Nat → ClassId} {K : KX} {u : gS} {a : Nat} {A : Nat → Prop} {k : Nat} {v : Option Nat} (hD : va_D A (wX ad ca K u)) (h : a ∈ K.2.1) (hk : (wX ad ca K u)[k]? = some (a, xW K u a)) : (wX ad ca K u).set k (a, .inr (4, ([va_rf (sQ u 4 a), .int (sA u 3 a), .double (sB u 3 a)] : List Value).set 0 (va_rf v))) = wX ad ca K (tQ u 4 a v) := by
  have e1 : xW K (tQ u 4 a v) = va_up (xW K u) a (.inr (4, ([va_rf (sQ u 4 a), .int (sA u 3 a), .double (sB u 3 a)] : List Value).set 0 (va_rf v))) := by
    funext b
    unfold va_up
    by_cases hb : b = a
    · rw [if_pos hb, hb]
      simp [xW, sA_tA, sA_tB, sA_tQ, sB_tA, sB_tB, sB_tQ, sQ_tA, sQ_tB, sQ_tQ]
    · rw [if_neg hb]
      simp [xW, hb, sA_tA, sA_tB, sA_tQ, sB_tA, sB_tB, sB_tQ, sQ_tA, sQ_tB, sQ_tQ]
  refine (g2_set hD h hk).trans ?_
  rw [← e1]
  rfl
theorem xW_left {ad : Nat → Nat} {ca : Nat → ClassId} {K : KX} {u : gS} {a : Nat} {A : Nat → Prop} {k : Nat} {v : Int32} (hD : va_D A (wX ad ca K u)) (h : a ∈ K.2.1) (hk : (wX ad ca K u)[k]? = some (a, xW K u a)) : (wX ad ca K u).set k (a, .inr (4, ([va_rf (sQ u 4 a), .int (sA u 3 a), .double (sB u 3 a)] : List Value).set 1 (.int v))) = wX ad ca K (tA u 3 a v) := by
  have e1 : xW K (tA u 3 a v) = va_up (xW K u) a (.inr (4, ([va_rf (sQ u 4 a), .int (sA u 3 a), .double (sB u 3 a)] : List Value).set 1 (.int v))) := by
    funext b
    unfold va_up
    by_cases hb : b = a
    · rw [if_pos hb, hb]
      simp [xW, sA_tA, sA_tB, sA_tQ, sB_tA, sB_tB, sB_tQ, sQ_tA, sQ_tB, sQ_tQ]
    · rw [if_neg hb]
      simp [xW, hb, sA_tA, sA_tB, sA_tQ, sB_tA, sB_tB, sB_tQ, sQ_tA, sQ_tB, sQ_tQ]
  refine (g2_set hD h hk).trans ?_
  rw [← e1]
  rfl
theorem xW_idleSince {ad : Nat → Nat} {ca : Nat → ClassId} {K : KX} {u : gS} {a : Nat} {A : Nat → Prop} {k : Nat} {v : UInt64} (hD : va_D A (wX ad ca K u)) (h : a ∈ K.2.1) (hk : (wX ad ca K u)[k]? = some (a, xW K u a)) : (wX ad ca K u).set k (a, .inr (4, ([va_rf (sQ u 4 a), .int (sA u 3 a), .double (sB u 3 a)] : List Value).set 2 (.double v))) = wX ad ca K (tB u 3 a v) := by
  have e1 : xW K (tB u 3 a v) = va_up (xW K u) a (.inr (4, ([va_rf (sQ u 4 a), .int (sA u 3 a), .double (sB u 3 a)] : List Value).set 2 (.double v))) := by
    funext b
    unfold va_up
    by_cases hb : b = a
    · rw [if_pos hb, hb]
      simp [xW, sA_tA, sA_tB, sA_tQ, sB_tA, sB_tB, sB_tQ, sQ_tA, sQ_tB, sQ_tQ]
    · rw [if_neg hb]
      simp [xW, hb, sA_tA, sA_tB, sA_tQ, sB_tA, sB_tB, sB_tQ, sQ_tA, sQ_tB, sQ_tQ]
  refine (g2_set hD h hk).trans ?_
  rw [← e1]
  rfl
theorem xJ_get {ad : Nat → Nat} {ca : Nat → ClassId} {K : KX} {u : gS} {a : Nat} (h : a ∈ K.2.2.1) : ∃ k : Nat, (wX ad ca K u)[k]? = some (a, xJ K u a) := va_pl_get h
theorem xJ_state {ad : Nat → Nat} {ca : Nat → ClassId} {K : KX} {u : gS} {a : Nat} {A : Nat → Prop} {k : Nat} {v : Int32} (hD : va_D A (wX ad ca K u)) (h : a ∈ K.2.2.1) (hk : (wX ad ca K u)[k]? = some (a, xJ K u a)) : (wX ad ca K u).set k (a, .inr (5, ([.int (K.2.2.2.1 a 0), .int (K.2.2.2.1 a 1), .int (K.2.2.2.1 a 2), .int (K.2.2.2.1 a 3), .int (K.2.2.2.1 a 4), .int (sA u 0 a), .int (sA u 1 a), .int (sA u 2 a), va_rf (sQ u 3 a)] : List Value).set 5 (.int v))) = wX ad ca K (tA u 0 a v) := by
  have e1 : xJ K (tA u 0 a v) = va_up (xJ K u) a (.inr (5, ([.int (K.2.2.2.1 a 0), .int (K.2.2.2.1 a 1), .int (K.2.2.2.1 a 2), .int (K.2.2.2.1 a 3), .int (K.2.2.2.1 a 4), .int (sA u 0 a), .int (sA u 1 a), .int (sA u 2 a), va_rf (sQ u 3 a)] : List Value).set 5 (.int v))) := by
    funext b
    unfold va_up
    by_cases hb : b = a
    · rw [if_pos hb, hb]
      simp [xJ, sA_tA, sA_tB, sA_tQ, sB_tA, sB_tB, sB_tQ, sQ_tA, sQ_tB, sQ_tQ]
    · rw [if_neg hb]
      simp [xJ, hb, sA_tA, sA_tB, sA_tQ, sB_tA, sB_tB, sB_tQ, sQ_tA, sQ_tB, sQ_tQ]
  refine (va_pl_set hD h hk).trans ?_
  rw [← e1]
  rfl
theorem xJ_result {ad : Nat → Nat} {ca : Nat → ClassId} {K : KX} {u : gS} {a : Nat} {A : Nat → Prop} {k : Nat} {v : Int32} (hD : va_D A (wX ad ca K u)) (h : a ∈ K.2.2.1) (hk : (wX ad ca K u)[k]? = some (a, xJ K u a)) : (wX ad ca K u).set k (a, .inr (5, ([.int (K.2.2.2.1 a 0), .int (K.2.2.2.1 a 1), .int (K.2.2.2.1 a 2), .int (K.2.2.2.1 a 3), .int (K.2.2.2.1 a 4), .int (sA u 0 a), .int (sA u 1 a), .int (sA u 2 a), va_rf (sQ u 3 a)] : List Value).set 6 (.int v))) = wX ad ca K (tA u 1 a v) := by
  have e1 : xJ K (tA u 1 a v) = va_up (xJ K u) a (.inr (5, ([.int (K.2.2.2.1 a 0), .int (K.2.2.2.1 a 1), .int (K.2.2.2.1 a 2), .int (K.2.2.2.1 a 3), .int (K.2.2.2.1 a 4), .int (sA u 0 a), .int (sA u 1 a), .int (sA u 2 a), va_rf (sQ u 3 a)] : List Value).set 6 (.int v))) := by
    funext b
    unfold va_up
    by_cases hb : b = a
    · rw [if_pos hb, hb]
      simp [xJ, sA_tA, sA_tB, sA_tQ, sB_tA, sB_tB, sB_tQ, sQ_tA, sQ_tB, sQ_tQ]
    · rw [if_neg hb]
      simp [xJ, hb, sA_tA, sA_tB, sA_tQ, sB_tA, sB_tB, sB_tQ, sQ_tA, sQ_tB, sQ_tQ]
  refine (va_pl_set hD h hk).trans ?_
  rw [← e1]
  rfl
theorem xJ_thrown {ad : Nat → Nat} {ca : Nat → ClassId} {K : KX} {u : gS} {a : Nat} {A : Nat → Prop} {k : Nat} {v : Int32} (hD : va_D A (wX ad ca K u)) (h : a ∈ K.2.2.1) (hk : (wX ad ca K u)[k]? = some (a, xJ K u a)) : (wX ad ca K u).set k (a, .inr (5, ([.int (K.2.2.2.1 a 0), .int (K.2.2.2.1 a 1), .int (K.2.2.2.1 a 2), .int (K.2.2.2.1 a 3), .int (K.2.2.2.1 a 4), .int (sA u 0 a), .int (sA u 1 a), .int (sA u 2 a), va_rf (sQ u 3 a)] : List Value).set 7 (.int v))) = wX ad ca K (tA u 2 a v) := by
  have e1 : xJ K (tA u 2 a v) = va_up (xJ K u) a (.inr (5, ([.int (K.2.2.2.1 a 0), .int (K.2.2.2.1 a 1), .int (K.2.2.2.1 a 2), .int (K.2.2.2.1 a 3), .int (K.2.2.2.1 a 4), .int (sA u 0 a), .int (sA u 1 a), .int (sA u 2 a), va_rf (sQ u 3 a)] : List Value).set 7 (.int v))) := by
    funext b
    unfold va_up
    by_cases hb : b = a
    · rw [if_pos hb, hb]
      simp [xJ, sA_tA, sA_tB, sA_tQ, sB_tA, sB_tB, sB_tQ, sQ_tA, sQ_tB, sQ_tQ]
    · rw [if_neg hb]
      simp [xJ, hb, sA_tA, sA_tB, sA_tQ, sB_tA, sB_tB, sB_tQ, sQ_tA, sQ_tB, sQ_tQ]
  refine (va_pl_set hD h hk).trans ?_
  rw [← e1]
  rfl
theorem xJ_next {ad : Nat → Nat} {ca : Nat → ClassId} {K : KX} {u : gS} {a : Nat} {A : Nat → Prop} {k : Nat} {v : Option Nat} (hD : va_D A (wX ad ca K u)) (h : a ∈ K.2.2.1) (hk : (wX ad ca K u)[k]? = some (a, xJ K u a)) : (wX ad ca K u).set k (a, .inr (5, ([.int (K.2.2.2.1 a 0), .int (K.2.2.2.1 a 1), .int (K.2.2.2.1 a 2), .int (K.2.2.2.1 a 3), .int (K.2.2.2.1 a 4), .int (sA u 0 a), .int (sA u 1 a), .int (sA u 2 a), va_rf (sQ u 3 a)] : List Value).set 8 (va_rf v))) = wX ad ca K (tQ u 3 a v) := by
  have e1 : xJ K (tQ u 3 a v) = va_up (xJ K u) a (.inr (5, ([.int (K.2.2.2.1 a 0), .int (K.2.2.2.1 a 1), .int (K.2.2.2.1 a 2), .int (K.2.2.2.1 a 3), .int (K.2.2.2.1 a 4), .int (sA u 0 a), .int (sA u 1 a), .int (sA u 2 a), va_rf (sQ u 3 a)] : List Value).set 8 (va_rf v))) := by
    funext b
    unfold va_up
    by_cases hb : b = a
    · rw [if_pos hb, hb]
      simp [xJ, sA_tA, sA_tB, sA_tQ, sB_tA, sB_tB, sB_tQ, sQ_tA, sQ_tB, sQ_tQ]
    · rw [if_neg hb]
      simp [xJ, hb, sA_tA, sA_tB, sA_tQ, sB_tA, sB_tB, sB_tQ, sQ_tA, sQ_tB, sQ_tQ]
  refine (va_pl_set hD h hk).trans ?_
  rw [← e1]
  rfl
def wM (ad : Nat → Nat) (ca : Nat → ClassId) (K : KM) (u : gS) : va_W := [
  (ad 0, .inr (6, [.int (sI u 0), .int (K 0), .int (K 1), .int (K 2), .int (K 3), .ref (ad 1), .ref (ad 2), .ref (ad 3), .ref (ad 4), .ref (ad 5), .ref (ad 6), .ref (ad 7), .ref (ad 8), .int (sI u 1), .int (sI u 2), .ref (ad 9), .ref (ad 10), .ref (ad 11), .ref (ad 12), .int (sI u 3), .int (sI u 4), .int (sI u 5), .ref (ad 13), .ref (ad 14), .int (sI u 6), .ref (ad 15), .ref (ad 16), .ref (ad 17), .int (sI u 7), .double (sD u 0), .int (sI u 8), .double (sD u 1), .int (sI u 9), .ref (ad 18), .ref (ad 19), .int (sI u 10)])),
  (ad 1, .inl (ca 0, 24, .inl (sA u 0))),
  (ad 2, .inl (ca 0, 24, .inl (sA u 1))),
  (ad 3, .inl (ca 0, 24, .inl (sA u 2))),
  (ad 4, .inl (ca 0, 24, .inl (sA u 3))),
  (ad 5, .inl (ca 0, 24, .inl (sA u 4))),
  (ad 6, .inl (ca 0, 24, .inl (sA u 5))),
  (ad 7, .inl (ca 0, 24, .inl (sA u 6))),
  (ad 8, .inl (ca 0, 24, .inl (sA u 7))),
  (ad 9, .inl (ca 0, 8, .inl (sA u 8))),
  (ad 10, .inl (ca 0, 8, .inl (sA u 9))),
  (ad 11, .inl (ca 0, 8, .inl (sA u 10))),
  (ad 12, .inl (ca 1, 8, .inr (.inr (.inr (.inl (sB u 0)))))),
  (ad 13, .inl (ca 0, 8, .inl (sA u 11))),
  (ad 14, .inl (ca 1, 8, .inr (.inr (.inr (.inl (sB u 1)))))),
  (ad 15, .inl (ca 0, 12, .inl (sA u 12))),
  (ad 16, .inl (ca 1, 12, .inr (.inr (.inr (.inl (sB u 2)))))),
  (ad 17, .inl (ca 1, 12, .inr (.inr (.inr (.inl (sB u 3)))))),
  (ad 18, .inl (ca 0, 60, .inl (sA u 13))),
  (ad 19, .inl (ca 0, 60, .inl (sA u 14)))]
theorem wM_f0_failed (ad : Nat → Nat) (ca : Nat → ClassId) (K : KM) (u : gS) (v : Int32) : wM ad ca K (tI u 0 v) = (wM ad ca K u).set 0 (ad 0, .inr (6, ([.int (sI u 0), .int (K 0), .int (K 1), .int (K 2), .int (K 3), .ref (ad 1), .ref (ad 2), .ref (ad 3), .ref (ad 4), .ref (ad 5), .ref (ad 6), .ref (ad 7), .ref (ad 8), .int (sI u 1), .int (sI u 2), .ref (ad 9), .ref (ad 10), .ref (ad 11), .ref (ad 12), .int (sI u 3), .int (sI u 4), .int (sI u 5), .ref (ad 13), .ref (ad 14), .int (sI u 6), .ref (ad 15), .ref (ad 16), .ref (ad 17), .int (sI u 7), .double (sD u 0), .int (sI u 8), .double (sD u 1), .int (sI u 9), .ref (ad 18), .ref (ad 19), .int (sI u 10)] : List Value).set 0 (.int v))) := rfl
theorem wM_f0_jobs (ad : Nat → Nat) (ca : Nat → ClassId) (K : KM) (u : gS) (v : Int32) : wM ad ca K (tI u 1 v) = (wM ad ca K u).set 0 (ad 0, .inr (6, ([.int (sI u 0), .int (K 0), .int (K 1), .int (K 2), .int (K 3), .ref (ad 1), .ref (ad 2), .ref (ad 3), .ref (ad 4), .ref (ad 5), .ref (ad 6), .ref (ad 7), .ref (ad 8), .int (sI u 1), .int (sI u 2), .ref (ad 9), .ref (ad 10), .ref (ad 11), .ref (ad 12), .int (sI u 3), .int (sI u 4), .int (sI u 5), .ref (ad 13), .ref (ad 14), .int (sI u 6), .ref (ad 15), .ref (ad 16), .ref (ad 17), .int (sI u 7), .double (sD u 0), .int (sI u 8), .double (sD u 1), .int (sI u 9), .ref (ad 18), .ref (ad 19), .int (sI u 10)] : List Value).set 13 (.int v))) := rfl
theorem wM_f0_pool (ad : Nat → Nat) (ca : Nat → ClassId) (K : KM) (u : gS) (v : Int32) : wM ad ca K (tI u 2 v) = (wM ad ca K u).set 0 (ad 0, .inr (6, ([.int (sI u 0), .int (K 0), .int (K 1), .int (K 2), .int (K 3), .ref (ad 1), .ref (ad 2), .ref (ad 3), .ref (ad 4), .ref (ad 5), .ref (ad 6), .ref (ad 7), .ref (ad 8), .int (sI u 1), .int (sI u 2), .ref (ad 9), .ref (ad 10), .ref (ad 11), .ref (ad 12), .int (sI u 3), .int (sI u 4), .int (sI u 5), .ref (ad 13), .ref (ad 14), .int (sI u 6), .ref (ad 15), .ref (ad 16), .ref (ad 17), .int (sI u 7), .double (sD u 0), .int (sI u 8), .double (sD u 1), .int (sI u 9), .ref (ad 18), .ref (ad 19), .int (sI u 10)] : List Value).set 14 (.int v))) := rfl
theorem wM_f0_workers (ad : Nat → Nat) (ca : Nat → ClassId) (K : KM) (u : gS) (v : Int32) : wM ad ca K (tI u 3 v) = (wM ad ca K u).set 0 (ad 0, .inr (6, ([.int (sI u 0), .int (K 0), .int (K 1), .int (K 2), .int (K 3), .ref (ad 1), .ref (ad 2), .ref (ad 3), .ref (ad 4), .ref (ad 5), .ref (ad 6), .ref (ad 7), .ref (ad 8), .int (sI u 1), .int (sI u 2), .ref (ad 9), .ref (ad 10), .ref (ad 11), .ref (ad 12), .int (sI u 3), .int (sI u 4), .int (sI u 5), .ref (ad 13), .ref (ad 14), .int (sI u 6), .ref (ad 15), .ref (ad 16), .ref (ad 17), .int (sI u 7), .double (sD u 0), .int (sI u 8), .double (sD u 1), .int (sI u 9), .ref (ad 18), .ref (ad 19), .int (sI u 10)] : List Value).set 19 (.int v))) := rfl
theorem wM_f0_named (ad : Nat → Nat) (ca : Nat → ClassId) (K : KM) (u : gS) (v : Int32) : wM ad ca K (tI u 4 v) = (wM ad ca K u).set 0 (ad 0, .inr (6, ([.int (sI u 0), .int (K 0), .int (K 1), .int (K 2), .int (K 3), .ref (ad 1), .ref (ad 2), .ref (ad 3), .ref (ad 4), .ref (ad 5), .ref (ad 6), .ref (ad 7), .ref (ad 8), .int (sI u 1), .int (sI u 2), .ref (ad 9), .ref (ad 10), .ref (ad 11), .ref (ad 12), .int (sI u 3), .int (sI u 4), .int (sI u 5), .ref (ad 13), .ref (ad 14), .int (sI u 6), .ref (ad 15), .ref (ad 16), .ref (ad 17), .int (sI u 7), .double (sD u 0), .int (sI u 8), .double (sD u 1), .int (sI u 9), .ref (ad 18), .ref (ad 19), .int (sI u 10)] : List Value).set 20 (.int v))) := rfl
theorem wM_f0_peak (ad : Nat → Nat) (ca : Nat → ClassId) (K : KM) (u : gS) (v : Int32) : wM ad ca K (tI u 5 v) = (wM ad ca K u).set 0 (ad 0, .inr (6, ([.int (sI u 0), .int (K 0), .int (K 1), .int (K 2), .int (K 3), .ref (ad 1), .ref (ad 2), .ref (ad 3), .ref (ad 4), .ref (ad 5), .ref (ad 6), .ref (ad 7), .ref (ad 8), .int (sI u 1), .int (sI u 2), .ref (ad 9), .ref (ad 10), .ref (ad 11), .ref (ad 12), .int (sI u 3), .int (sI u 4), .int (sI u 5), .ref (ad 13), .ref (ad 14), .int (sI u 6), .ref (ad 15), .ref (ad 16), .ref (ad 17), .int (sI u 7), .double (sD u 0), .int (sI u 8), .double (sD u 1), .int (sI u 9), .ref (ad 18), .ref (ad 19), .int (sI u 10)] : List Value).set 21 (.int v))) := rfl
theorem wM_f0_queued (ad : Nat → Nat) (ca : Nat → ClassId) (K : KM) (u : gS) (v : Int32) : wM ad ca K (tI u 6 v) = (wM ad ca K u).set 0 (ad 0, .inr (6, ([.int (sI u 0), .int (K 0), .int (K 1), .int (K 2), .int (K 3), .ref (ad 1), .ref (ad 2), .ref (ad 3), .ref (ad 4), .ref (ad 5), .ref (ad 6), .ref (ad 7), .ref (ad 8), .int (sI u 1), .int (sI u 2), .ref (ad 9), .ref (ad 10), .ref (ad 11), .ref (ad 12), .int (sI u 3), .int (sI u 4), .int (sI u 5), .ref (ad 13), .ref (ad 14), .int (sI u 6), .ref (ad 15), .ref (ad 16), .ref (ad 17), .int (sI u 7), .double (sD u 0), .int (sI u 8), .double (sD u 1), .int (sI u 9), .ref (ad 18), .ref (ad 19), .int (sI u 10)] : List Value).set 24 (.int v))) := rfl
theorem wM_f0_entries (ad : Nat → Nat) (ca : Nat → ClassId) (K : KM) (u : gS) (v : Int32) : wM ad ca K (tI u 7 v) = (wM ad ca K u).set 0 (ad 0, .inr (6, ([.int (sI u 0), .int (K 0), .int (K 1), .int (K 2), .int (K 3), .ref (ad 1), .ref (ad 2), .ref (ad 3), .ref (ad 4), .ref (ad 5), .ref (ad 6), .ref (ad 7), .ref (ad 8), .int (sI u 1), .int (sI u 2), .ref (ad 9), .ref (ad 10), .ref (ad 11), .ref (ad 12), .int (sI u 3), .int (sI u 4), .int (sI u 5), .ref (ad 13), .ref (ad 14), .int (sI u 6), .ref (ad 15), .ref (ad 16), .ref (ad 17), .int (sI u 7), .double (sD u 0), .int (sI u 8), .double (sD u 1), .int (sI u 9), .ref (ad 18), .ref (ad 19), .int (sI u 10)] : List Value).set 28 (.int v))) := rfl
theorem wM_f0_time (ad : Nat → Nat) (ca : Nat → ClassId) (K : KM) (u : gS) (v : UInt64) : wM ad ca K (tD u 0 v) = (wM ad ca K u).set 0 (ad 0, .inr (6, ([.int (sI u 0), .int (K 0), .int (K 1), .int (K 2), .int (K 3), .ref (ad 1), .ref (ad 2), .ref (ad 3), .ref (ad 4), .ref (ad 5), .ref (ad 6), .ref (ad 7), .ref (ad 8), .int (sI u 1), .int (sI u 2), .ref (ad 9), .ref (ad 10), .ref (ad 11), .ref (ad 12), .int (sI u 3), .int (sI u 4), .int (sI u 5), .ref (ad 13), .ref (ad 14), .int (sI u 6), .ref (ad 15), .ref (ad 16), .ref (ad 17), .int (sI u 7), .double (sD u 0), .int (sI u 8), .double (sD u 1), .int (sI u 9), .ref (ad 18), .ref (ad 19), .int (sI u 10)] : List Value).set 29 (.double v))) := rfl
theorem wM_f0_ended (ad : Nat → Nat) (ca : Nat → ClassId) (K : KM) (u : gS) (v : Int32) : wM ad ca K (tI u 8 v) = (wM ad ca K u).set 0 (ad 0, .inr (6, ([.int (sI u 0), .int (K 0), .int (K 1), .int (K 2), .int (K 3), .ref (ad 1), .ref (ad 2), .ref (ad 3), .ref (ad 4), .ref (ad 5), .ref (ad 6), .ref (ad 7), .ref (ad 8), .int (sI u 1), .int (sI u 2), .ref (ad 9), .ref (ad 10), .ref (ad 11), .ref (ad 12), .int (sI u 3), .int (sI u 4), .int (sI u 5), .ref (ad 13), .ref (ad 14), .int (sI u 6), .ref (ad 15), .ref (ad 16), .ref (ad 17), .int (sI u 7), .double (sD u 0), .int (sI u 8), .double (sD u 1), .int (sI u 9), .ref (ad 18), .ref (ad 19), .int (sI u 10)] : List Value).set 30 (.int v))) := rfl
theorem wM_f0_delaySum (ad : Nat → Nat) (ca : Nat → ClassId) (K : KM) (u : gS) (v : UInt64) : wM ad ca K (tD u 1 v) = (wM ad ca K u).set 0 (ad 0, .inr (6, ([.int (sI u 0), .int (K 0), .int (K 1), .int (K 2), .int (K 3), .ref (ad 1), .ref (ad 2), .ref (ad 3), .ref (ad 4), .ref (ad 5), .ref (ad 6), .ref (ad 7), .ref (ad 8), .int (sI u 1), .int (sI u 2), .ref (ad 9), .ref (ad 10), .ref (ad 11), .ref (ad 12), .int (sI u 3), .int (sI u 4), .int (sI u 5), .ref (ad 13), .ref (ad 14), .int (sI u 6), .ref (ad 15), .ref (ad 16), .ref (ad 17), .int (sI u 7), .double (sD u 0), .int (sI u 8), .double (sD u 1), .int (sI u 9), .ref (ad 18), .ref (ad 19), .int (sI u 10)] : List Value).set 31 (.double v))) := rfl
theorem wM_f0_delayCount (ad : Nat → Nat) (ca : Nat → ClassId) (K : KM) (u : gS) (v : Int32) : wM ad ca K (tI u 9 v) = (wM ad ca K u).set 0 (ad 0, .inr (6, ([.int (sI u 0), .int (K 0), .int (K 1), .int (K 2), .int (K 3), .ref (ad 1), .ref (ad 2), .ref (ad 3), .ref (ad 4), .ref (ad 5), .ref (ad 6), .ref (ad 7), .ref (ad 8), .int (sI u 1), .int (sI u 2), .ref (ad 9), .ref (ad 10), .ref (ad 11), .ref (ad 12), .int (sI u 3), .int (sI u 4), .int (sI u 5), .ref (ad 13), .ref (ad 14), .int (sI u 6), .ref (ad 15), .ref (ad 16), .ref (ad 17), .int (sI u 7), .double (sD u 0), .int (sI u 8), .double (sD u 1), .int (sI u 9), .ref (ad 18), .ref (ad 19), .int (sI u 10)] : List Value).set 32 (.int v))) := rfl
theorem wM_f0_top (ad : Nat → Nat) (ca : Nat → ClassId) (K : KM) (u : gS) (v : Int32) : wM ad ca K (tI u 10 v) = (wM ad ca K u).set 0 (ad 0, .inr (6, ([.int (sI u 0), .int (K 0), .int (K 1), .int (K 2), .int (K 3), .ref (ad 1), .ref (ad 2), .ref (ad 3), .ref (ad 4), .ref (ad 5), .ref (ad 6), .ref (ad 7), .ref (ad 8), .int (sI u 1), .int (sI u 2), .ref (ad 9), .ref (ad 10), .ref (ad 11), .ref (ad 12), .int (sI u 3), .int (sI u 4), .int (sI u 5), .ref (ad 13), .ref (ad 14), .int (sI u 6), .ref (ad 15), .ref (ad 16), .ref (ad 17), .int (sI u 7), .double (sD u 0), .int (sI u 8), .double (sD u 1), .int (sI u 9), .ref (ad 18), .ref (ad 19), .int (sI u 10)] : List Value).set 35 (.int v))) := rfl
theorem wM_a1 (ad : Nat → Nat) (ca : Nat → ClassId) (K : KM) (u : gS) (i : Nat) (v : Int32) : wM ad ca K (tA u 0 i v) = (wM ad ca K u).set 1 (ad 1, .inl (ca 0, 24, .inl (upd (sA u 0) i v))) := rfl
theorem wM_a2 (ad : Nat → Nat) (ca : Nat → ClassId) (K : KM) (u : gS) (i : Nat) (v : Int32) : wM ad ca K (tA u 1 i v) = (wM ad ca K u).set 2 (ad 2, .inl (ca 0, 24, .inl (upd (sA u 1) i v))) := rfl
theorem wM_a3 (ad : Nat → Nat) (ca : Nat → ClassId) (K : KM) (u : gS) (i : Nat) (v : Int32) : wM ad ca K (tA u 2 i v) = (wM ad ca K u).set 3 (ad 3, .inl (ca 0, 24, .inl (upd (sA u 2) i v))) := rfl
theorem wM_a4 (ad : Nat → Nat) (ca : Nat → ClassId) (K : KM) (u : gS) (i : Nat) (v : Int32) : wM ad ca K (tA u 3 i v) = (wM ad ca K u).set 4 (ad 4, .inl (ca 0, 24, .inl (upd (sA u 3) i v))) := rfl
theorem wM_a5 (ad : Nat → Nat) (ca : Nat → ClassId) (K : KM) (u : gS) (i : Nat) (v : Int32) : wM ad ca K (tA u 4 i v) = (wM ad ca K u).set 5 (ad 5, .inl (ca 0, 24, .inl (upd (sA u 4) i v))) := rfl
theorem wM_a6 (ad : Nat → Nat) (ca : Nat → ClassId) (K : KM) (u : gS) (i : Nat) (v : Int32) : wM ad ca K (tA u 5 i v) = (wM ad ca K u).set 6 (ad 6, .inl (ca 0, 24, .inl (upd (sA u 5) i v))) := rfl
theorem wM_a7 (ad : Nat → Nat) (ca : Nat → ClassId) (K : KM) (u : gS) (i : Nat) (v : Int32) : wM ad ca K (tA u 6 i v) = (wM ad ca K u).set 7 (ad 7, .inl (ca 0, 24, .inl (upd (sA u 6) i v))) := rfl
theorem wM_a8 (ad : Nat → Nat) (ca : Nat → ClassId) (K : KM) (u : gS) (i : Nat) (v : Int32) : wM ad ca K (tA u 7 i v) = (wM ad ca K u).set 8 (ad 8, .inl (ca 0, 24, .inl (upd (sA u 7) i v))) := rfl
theorem wM_a9 (ad : Nat → Nat) (ca : Nat → ClassId) (K : KM) (u : gS) (i : Nat) (v : Int32) : wM ad ca K (tA u 8 i v) = (wM ad ca K u).set 9 (ad 9, .inl (ca 0, 8, .inl (upd (sA u 8) i v))) := rfl
theorem wM_a10 (ad : Nat → Nat) (ca : Nat → ClassId) (K : KM) (u : gS) (i : Nat) (v : Int32) : wM ad ca K (tA u 9 i v) = (wM ad ca K u).set 10 (ad 10, .inl (ca 0, 8, .inl (upd (sA u 9) i v))) := rfl
theorem wM_a11 (ad : Nat → Nat) (ca : Nat → ClassId) (K : KM) (u : gS) (i : Nat) (v : Int32) : wM ad ca K (tA u 10 i v) = (wM ad ca K u).set 11 (ad 11, .inl (ca 0, 8, .inl (upd (sA u 10) i v))) := rfl
theorem wM_a12 (ad : Nat → Nat) (ca : Nat → ClassId) (K : KM) (u : gS) (i : Nat) (v : UInt64) : wM ad ca K (tB u 0 i v) = (wM ad ca K u).set 12 (ad 12, .inl (ca 1, 8, .inr (.inr (.inr (.inl (vf_upd (sB u 0) i v)))))) := rfl
theorem wM_a13 (ad : Nat → Nat) (ca : Nat → ClassId) (K : KM) (u : gS) (i : Nat) (v : Int32) : wM ad ca K (tA u 11 i v) = (wM ad ca K u).set 13 (ad 13, .inl (ca 0, 8, .inl (upd (sA u 11) i v))) := rfl
theorem wM_a14 (ad : Nat → Nat) (ca : Nat → ClassId) (K : KM) (u : gS) (i : Nat) (v : UInt64) : wM ad ca K (tB u 1 i v) = (wM ad ca K u).set 14 (ad 14, .inl (ca 1, 8, .inr (.inr (.inr (.inl (vf_upd (sB u 1) i v)))))) := rfl
theorem wM_a15 (ad : Nat → Nat) (ca : Nat → ClassId) (K : KM) (u : gS) (i : Nat) (v : Int32) : wM ad ca K (tA u 12 i v) = (wM ad ca K u).set 15 (ad 15, .inl (ca 0, 12, .inl (upd (sA u 12) i v))) := rfl
theorem wM_a16 (ad : Nat → Nat) (ca : Nat → ClassId) (K : KM) (u : gS) (i : Nat) (v : UInt64) : wM ad ca K (tB u 2 i v) = (wM ad ca K u).set 16 (ad 16, .inl (ca 1, 12, .inr (.inr (.inr (.inl (vf_upd (sB u 2) i v)))))) := rfl
theorem wM_a17 (ad : Nat → Nat) (ca : Nat → ClassId) (K : KM) (u : gS) (i : Nat) (v : UInt64) : wM ad ca K (tB u 3 i v) = (wM ad ca K u).set 17 (ad 17, .inl (ca 1, 12, .inr (.inr (.inr (.inl (vf_upd (sB u 3) i v)))))) := rfl
theorem wM_a18 (ad : Nat → Nat) (ca : Nat → ClassId) (K : KM) (u : gS) (i : Nat) (v : Int32) : wM ad ca K (tA u 13 i v) = (wM ad ca K u).set 18 (ad 18, .inl (ca 0, 60, .inl (upd (sA u 13) i v))) := rfl
theorem wM_a19 (ad : Nat → Nat) (ca : Nat → ClassId) (K : KM) (u : gS) (i : Nat) (v : Int32) : wM ad ca K (tA u 14 i v) = (wM ad ca K u).set 19 (ad 19, .inl (ca 0, 60, .inl (upd (sA u 14) i v))) := rfl
