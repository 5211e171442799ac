/-! the law's own methods: with a table of what they catch, over the class's world and an array of one place -/
theorem gl_ofWH {l : Launch} {y : MethodName} {ws ws' : List Cond} {rm : Room} {Pc : Array Value → State → Prop} {Qc : Array Value → State → Outcome → State → Prop} {mc ms : Nat} {free : Addr → Prop} {cc : ByteArray} {maxL : Nat} {ret : Option FieldType} {hh : List (Nat × Nat × Nat × Nat)}
    (hy : plainName y.cls = true) (hw : ws = Cond.codeWith y cc maxL ret hh :: ws')
    (body : ∀ p e s m args below meth c s₁, BodyLoose p l y (headSpec ws rm) cc maxL ret e s m args below meth c s₁ → c.maxLocals = maxL → Pc args s →
      W p l e (headSpec ws rm).room s m args below meth c s.heap [] 0 0 (MQ below Qc args s mc ms free) (entryFrame m args maxL)) : Met l y ws rm Pc Qc mc ms free := by
  refine MetFree.of_bodyS (code := cc) (maxLocals := maxL) (ret := ret) hy ?_ ?_
  · intro args s m h hn
    obtain ⟨m9, meth, c, hn9, h1, h2, h3, h4, -, h5, h6, -⟩ := Cond.codeWith_spec (atoms_spec (ws := ws) h _ (by rw [hw]; exact List.mem_cons_self))
    cases hn.symm.trans hn9
    exact ⟨meth, c, h1, h2, h3, h4, h5, h6⟩
  · intro p e s m args below meth c s₁ B hml hP _
    have hh0 : s₁.heap = s.heap := by rw [B.state]; rfl
    obtain ⟨t, a1, o, b1, b2, b3⟩ := body p e s m args below meth c s₁ B hml hP s₁ hh0 (Stand.of_body B)
    exact ⟨t, o, a1, b1, b2, b3⟩
abbrev gwH (y : MethodName) (b : ByteArray) (n : Nat) (r : Option FieldType) (hh : List (Nat × Nat × Nat × Nat)) : List Cond := Cond.codeWith y b n r hh :: gW
theorem gG_SW {own : String} {ix : Nat} {y : MethodName} {b : ByteArray} {n : Nat} {r : Option FieldType} {hh : List (Nat × Nat × Nat × Nat)} (h1 : Cond.methodLink own ix y ∈ gW) (h2 : Cond.static y ∈ gW) (h4 : Cond.initialized y.cls ∈ gW) (h5 : Cond.codeWith y b n r hh ∈ gW) : GoodIn gW (va_wsS own ix y (gwH y b n r hh)) := by
  intro w hw
  simp only [va_wsS, List.mem_append, List.mem_cons, List.not_mem_nil, or_false] at hw
  rcases hw with (e | e | e) | e | h
  · rw [e]; exact gw_good h1
  · rw [e]; exact gw_good h2
  · rw [e]; exact gw_good h4
  · rw [e]; exact gw_good h5
  · exact gw_good h
abbrev RL : String := "WorkHallLaw"
/-- the places that answers are put into -/
abbrev wO (o : Nat) (cO : ClassId) (f : Nat → Int64) : va_W := [(o, .inl (cO, 1, .inr (.inl f)))]
abbrev wP (o : Nat) (cO : ClassId) (f : Nat → UInt64) : va_W := [(o, .inl (cO, 1, .inr (.inr (.inr (.inl f)))))]
abbrev lT (ca : Nat → ClassId) (cO : ClassId) : List (ClassId × FieldType) := [(ca 0, .object "WorkHall$Job"), (ca 1, .object "WorkHall$Worker"), (ca 2, .double), (cO, .long)]
section GL
variable {p : Program} {l : Launch} {e : Env} {R : Room} {s : State} {m : MethodId} {args : Array Value} {below : List Frame} {meth : Method} {c : Code} {H : Heap} {locs : List Loc} {cells slots : Nat} {Q : State → Prop}
variable {pc : Nat} {ls : Array Slot} {rest st0 : List Value} {a : Array Value} {A : Nat → Prop} {mc ms : Nat} {D : va_G} {cl : List vw_C} {tys : List (ClassId × FieldType)} {S : Type} {w : S → va_W} {w0 wr : va_W}
/-- a call that may throw, on a part of the world -/
theorem gxl_i {post : Int32 → S → Prop} {py : String → S → Prop} (hr : vx_Run p l e R s m args below meth c H locs cells slots mc ms (F0 m pc ls st0) rest (va_Qi post (gAt D cl tys w (va_A w0 H.size)) (va_A w0 H.size) a) (gX D cl tys w py (va_A w0 H.size)) (va_A w0 H.size)) (hP : va_P D cl (wr ++ w0) H) (hD : va_D A (wr ++ w0)) (hS : va_S A s.heap H locs) (hA : ∀ q, s.heap.size ≤ q → A q)
    (kx : ∀ (E : String) (ce : Cell) (q : Addr) (u1 : S) (H1 : Heap) (locs1 : List Loc), py E u1 → va_P D cl (wr ++ w u1) H1 → va_D A (wr ++ w u1) → va_S A s.heap H1 locs1 → H1[q]? = some ce → ce.vm = .none → s.vm.findClass E = some ce.cls → vx_W p l e R s m args below meth c H1 locs1 (cells + mc) (slots + ms) Q (F0 m pc ls rest) q)
    (kk : ∀ (r : Int32) (u1 : S) (H1 : Heap) (locs1 : List Loc), post r u1 → va_P D cl (wr ++ w u1) H1 → va_D A (wr ++ w u1) → va_S A s.heap H1 locs1 → W p l e R s m args below meth c H1 locs1 (cells + mc) (slots + ms) Q (F0 m (pc + 3) ls (.int r :: rest))) : W p l e R s m args below meth c H locs cells slots Q (F0 m pc ls st0) := by
  have hF := g_free (gD_r hD) hS hA
  have ap : gAp w0 wr := (gD_ap hD).symm
  refine vx_calli hr hS (fun q _ h => hF q h) hF (fun q _ h => hF q h) (fun E ce q z t H1 locs ht hvm hw hB hz1 hk1 hS hce hcv hcl => ?_) (fun r u t H1 locs ht hvm hw hB hz1 hk1 hS => ?_)
  · obtain ⟨E', u1⟩ := z
    obtain ⟨rfl, hP1, hK1, hD1⟩ := hB
    rw [ht] at hP1
    exact kx _ ce q u1 H1 locs hw (gP_app (gl_kept (gP_l hP) ap hk1) hP1) (gD_app (gD_l hD) (hD1.weaken (fun k q _ h => hF q.1 h)) (gl_ap (gP_l hP) ap hD1).symm) hS hce hcv hcl
  · obtain ⟨hP1, hK1, hD1⟩ := hB
    rw [ht] at hP1
    exact kk r u H1 locs hw (gP_app (gl_kept (gP_l hP) ap hk1) hP1) (gD_app (gD_l hD) (hD1.weaken (fun k q _ h => hF q.1 h)) (gl_ap (gP_l hP) ap hD1).symm) hS
theorem gxl_d {post : UInt64 → S → Prop} {py : String → S → Prop} (hr : vx_Run p l e R s m args below meth c H locs cells slots mc ms (F0 m pc ls st0) rest (va_Qd post (gAt D cl tys w (va_A w0 H.size)) (va_A w0 H.size) a) (gX D cl tys w py (va_A w0 H.size)) (va_A w0 H.size)) (hP : va_P D cl (wr ++ w0) H) (hD : va_D A (wr ++ w0)) (hS : va_S A s.heap H locs) (hA : ∀ q, s.heap.size ≤ q → A q)
    (kx : ∀ (E : String) (ce : Cell) (q : Addr) (u1 : S) (H1 : Heap) (locs1 : List Loc), py E u1 → va_P D cl (wr ++ w u1) H1 → va_D A (wr ++ w u1) → va_S A s.heap H1 locs1 → H1[q]? = some ce → ce.vm = .none → s.vm.findClass E = some ce.cls → vx_W p l e R s m args below meth c H1 locs1 (cells + mc) (slots + ms) Q (F0 m pc ls rest) q)
    (kk : ∀ (r : UInt64) (u1 : S) (H1 : Heap) (locs1 : List Loc), post r u1 → va_P D cl (wr ++ w u1) H1 → va_D A (wr ++ w u1) → va_S A s.heap H1 locs1 → W p l e R s m args below meth c H1 locs1 (cells + mc) (slots + ms) Q (F0 m (pc + 3) ls (.double r :: rest))) : W p l e R s m args below meth c H locs cells slots Q (F0 m pc ls st0) := by
  have hF := g_free (gD_r hD) hS hA
  have ap : gAp w0 wr := (gD_ap hD).symm
  refine vx_calld hr hS (fun q _ h => hF q h) hF (fun q _ h => hF q h) (fun E ce q z t H1 locs ht hvm hw hB hz1 hk1 hS hce hcv hcl => ?_) (fun r u t H1 locs ht hvm hw hB hz1 hk1 hS => ?_)
  · obtain ⟨E', u1⟩ := z
    obtain ⟨rfl, hP1, hK1, hD1⟩ := hB
    rw [ht] at hP1
    exact kx _ ce q u1 H1 locs hw (gP_app (gl_kept (gP_l hP) ap hk1) hP1) (gD_app (gD_l hD) (hD1.weaken (fun k q _ h => hF q.1 h)) (gl_ap (gP_l hP) ap hD1).symm) hS hce hcv hcl
  · obtain ⟨hP1, hK1, hD1⟩ := hB
    rw [ht] at hP1
    exact kk r u H1 locs hw (gP_app (gl_kept (gP_l hP) ap hk1) hP1) (gD_app (gD_l hD) (hD1.weaken (fun k q _ h => hF q.1 h)) (gl_ap (gP_l hP) ap hD1).symm) hS
/-- a call that returns, on a part of the world -/
theorem gyl_i {post : Int32 → S → Prop} (hr : va_Run p l e R s m args below meth c H locs cells slots mc ms (F0 m pc ls st0) rest (va_Qi post (gAt D cl tys w (va_A w0 H.size)) (va_A w0 H.size) a) (va_A w0 H.size)) (hP : va_P D cl (wr ++ w0) H) (hD : va_D A (wr ++ w0)) (hS : va_S A s.heap H locs) (hA : ∀ q, s.heap.size ≤ q → A q)
    (kk : ∀ (r : Int32) (u1 : S) (H1 : Heap) (locs1 : List Loc), post r u1 → va_P D cl (wr ++ w u1) H1 → va_D A (wr ++ w u1) → va_S A s.heap H1 locs1 → W p l e R s m args below meth c H1 locs1 (cells + mc) (slots + ms) Q (F0 m (pc + 3) ls (.int r :: rest))) : W p l e R s m args below meth c H locs cells slots Q (F0 m pc ls st0) := by
  have hF := g_free (gD_r hD) hS hA
  have ap : gAp w0 wr := (gD_ap hD).symm
  refine va_calli hr hS (fun q _ h => hF q h) hF (fun r u t H1 locs ht hvm hw hB hz1 hk1 hS => ?_)
  obtain ⟨hP1, hK1, hD1⟩ := hB
  rw [ht] at hP1
  exact kk r u H1 locs hw (gP_app (gl_kept (gP_l hP) ap hk1) hP1) (gD_app (gD_l hD) (hD1.weaken (fun k q _ h => hF q.1 h)) (gl_ap (gP_l hP) ap hD1).symm) hS
theorem gyl_d {post : UInt64 → S → Prop} (hr : va_Run p l e R s m args below meth c H locs cells slots mc ms (F0 m pc ls st0) rest (va_Qd post (gAt D cl tys w (va_A w0 H.size)) (va_A w0 H.size) a) (va_A w0 H.size)) (hP : va_P D cl (wr ++ w0) H) (hD : va_D A (wr ++ w0)) (hS : va_S A s.heap H locs) (hA : ∀ q, s.heap.size ≤ q → A q)
    (kk : ∀ (r : UInt64) (u1 : S) (H1 : Heap) (locs1 : List Loc), post r u1 → va_P D cl (wr ++ w u1) H1 → va_D A (wr ++ w u1) → va_S A s.heap H1 locs1 → W p l e R s m args below meth c H1 locs1 (cells + mc) (slots + ms) Q (F0 m (pc + 3) ls (.double r :: rest))) : W p l e R s m args below meth c H locs cells slots Q (F0 m pc ls st0) := by
  have hF := g_free (gD_r hD) hS hA
  have ap : gAp w0 wr := (gD_ap hD).symm
  refine va_calld hr hS (fun q _ h => hF q h) hF (fun r u t H1 locs ht hvm hw hB hz1 hk1 hS => ?_)
  obtain ⟨hP1, hK1, hD1⟩ := hB
  rw [ht] at hP1
  exact kk r u H1 locs hw (gP_app (gl_kept (gP_l hP) ap hk1) hP1) (gD_app (gD_l hD) (hD1.weaken (fun k q _ h => hF q.1 h)) (gl_ap (gP_l hP) ap hD1).symm) hS
end GL
