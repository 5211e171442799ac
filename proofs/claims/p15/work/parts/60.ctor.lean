/-! constructors: worlds as explicit lists of cells -/
/-- what a constructor leaves: cells and array classes as functions of what it made -/
def cAt (D : va_G) (cl : List vw_C) {S : Type} (tys : S → List (ClassId × FieldType)) (w : S → va_W) (A : Nat → Prop) (u : S) (t : State) : Prop :=
  va_P D cl (w u) t.heap ∧ va_K D cl (tys u) t ∧ va_D A (w u)
/-- addresses and array classes -/
abbrev cS : Type := (Nat → Nat) × (Nat → ClassId)
def nE (_ : Nat → Prop) (U : State) (_ : Heap) : Prop :=
  va_AO "WorkHall$Job" U ∧ va_AO "WorkHall$Worker" U ∧ va_Nw (.methodLinkNest "WorkHall$Crew" 24 ⟨"WorkHall$Worker", "<init>", "()V"⟩ "WorkHall") U ∧
  va_Nw (.methodLinkNest "WorkHall" 24 ⟨"WorkHall$Line", "<init>", "()V"⟩ "WorkHall") U ∧ va_Nw (.methodLinkNest "WorkHall" 31 ⟨"WorkHall$Timetable", "<init>", "()V"⟩ "WorkHall") U
theorem nE_ok : gE nE := ⟨fun _ _ _ _ hW h => ⟨h.1.moved hW.alike, h.2.1.moved hW.alike, va_Nw.warmM hW h.2.2.1, va_Nw.warmM hW h.2.2.2.1, va_Nw.warmM hW h.2.2.2.2⟩, fun _ _ _ _ _ h => h, fun _ _ _ _ _ h => h⟩
/-- what the class's own constructor finds outside -/
def kE (A : Nat → Prop) (U : State) (H : Heap) : Prop := nE A U H ∧ xE A U H
theorem kE_ok : gE kE := ⟨fun A u U H hW h => ⟨nE_ok.1 A u U H hW h.1, xE_ok.1 A u U H hW h.2⟩, fun A U H H1 hk h => ⟨nE_ok.2.1 A U H H1 hk h.1, xE_ok.2.1 A U H H1 hk h.2⟩, fun A B U H hk h => ⟨nE_ok.2.2 A B U H hk h.1, xE_ok.2.2 A B U H hk h.2⟩⟩
section NE
variable {A : Nat → Prop} {U : State} {H : Heap}
theorem nE_J (h : nE A U H) : va_AO "WorkHall$Job" U := h.1
theorem nE_W (h : nE A U H) : va_AO "WorkHall$Worker" U := h.2.1
theorem nE_n1 (h : nE A U H) : va_Nw (.methodLinkNest "WorkHall$Crew" 24 ⟨"WorkHall$Worker", "<init>", "()V"⟩ "WorkHall") U := h.2.2.1
theorem nE_n2 (h : nE A U H) : va_Nw (.methodLinkNest "WorkHall" 24 ⟨"WorkHall$Line", "<init>", "()V"⟩ "WorkHall") U := h.2.2.2.1
theorem nE_n3 (h : nE A U H) : va_Nw (.methodLinkNest "WorkHall" 31 ⟨"WorkHall$Timetable", "<init>", "()V"⟩ "WorkHall") U := h.2.2.2.2
theorem kE_J (h : kE A U H) : va_AO "WorkHall$Job" U := h.1.1
theorem kE_n2 (h : kE A U H) : va_Nw (.methodLinkNest "WorkHall" 24 ⟨"WorkHall$Line", "<init>", "()V"⟩ "WorkHall") U := nE_n2 h.1
theorem kE_n3 (h : kE A U H) : va_Nw (.methodLinkNest "WorkHall" 31 ⟨"WorkHall$Timetable", "<init>", "()V"⟩ "WorkHall") U := nE_n3 h.1
theorem kE_nE (h : kE A U H) : nE A U H := h.1
theorem nE_nE (h : nE A U H) : nE A U H := h
end NE
/-- two array classes of one kind are one -/
theorem g_same {D : va_G} {cl : List vw_C} {tys : List (ClassId × FieldType)} {U : State} (h : va_K D cl tys U) (i j : Nat) {c d : ClassId} {ty : FieldType} (hi : tys[i]? = some (c, ty)) (hj : tys[j]? = some (d, ty)) (hty : ty = .int ∨ ty = .double ∨ ty = .long ∨ ∃ C, ty = .object C) : c = d := by
  have h1 := (h.2 i _ hi).2
  have h2 := (h.2 j _ hj).2
  rcases hty with rfl | rfl | rfl | ⟨C, rfl⟩
  · exact Option.some.inj (h1.symm.trans h2)
  · exact Option.some.inj (h1.symm.trans h2)
  · exact Option.some.inj (h1.symm.trans h2)
  · obtain ⟨_, _, _, _, _, h1⟩ := h1
    obtain ⟨_, _, _, _, _, h2⟩ := h2
    exact Option.some.inj (h1.symm.trans h2)
section GK
variable {p : Program} {l : Launch} {e : Env} {R : Room} {s : State} {m : MethodId} {args : Array Value} {below : List Frame} {meth : Method} {c : Code} {H : Heap} {locs : List Loc} {cells slots : Nat} {Q : State → Prop}
variable {pc : Nat} {ls : Array Slot} {rest st0 : List Value} {a : Array Value} {A : Nat → Prop} {mc ms : Nat} {D : va_G} {cl : List vw_C} {tys : List (ClassId × FieldType)} {S : Type} {tysO : S → List (ClassId × FieldType)} {w1 : S → va_W} {ws wc wr : va_W}
/-- a constructor's call: what it made stands behind what was there -/
theorem gk_v {post : S → Prop} (hr : va_Run p l e R s m args below meth c H locs cells slots mc ms (F0 m pc ls st0) rest (va_Qv post (cAt D cl tysO w1 (va_A wc H.size)) (va_A wc H.size) a) (va_A wc H.size)) (hP : va_P D cl ws H) (hD : va_D A ws) (hK : va_K D cl tys s) (hS : va_S A s.heap H locs) (hA : ∀ q, s.heap.size ≤ q → A q)
    (isC isR : List Nat) (hC : isC.map (fun i => ws[i]?) = wc.map some) (hR : isR.map (fun i => ws[i]?) = wr.map some) (hn : va_nd isR = true) (hdis : ∀ i ∈ isR, i ∉ isC)
    (kk : ∀ (u1 : S) (H1 : Heap) (locs1 : List Loc), va_P D cl (wr ++ w1 u1) H1 → va_D A (wr ++ w1 u1) → va_K D cl (tys ++ tysO u1) s → va_S A s.heap H1 locs1 → W p l e R s m args below meth c H1 locs1 (cells + mc) (slots + ms) Q (F0 m (pc + 3) ls rest)) : W p l e R s m args below meth c H locs cells slots Q (F0 m pc ls st0) := by
  have hF := va_free (wc := wc) hD hS hA isC hC
  refine va_callv hr hS (fun q _ h => hF q h) hF (fun u t H1 locs ht hvm hw hB hz1 hk1 hS => ?_)
  obtain ⟨hP1, hK1, hD1⟩ := hB
  rw [ht] at hP1
  have hK1 := va_K.moved hvm.symm hK1
  obtain ⟨hP2, hD2⟩ := va_join (wr := wr) (w1 := w1 u) hP hD isC isR hC hR hn hdis hk1 hF hP1 hD1
  exact kk u H1 locs hP2 hD2 (hK.app hK1) hS
end GK
