/-! worlds as functions of a state: contracts, calls, returns, said once for any world -/
/-- what a method finds: the cells w, the tables, the statics E -/
def gB (D : va_G) (cl : List vw_C) (tys : List (ClassId × FieldType)) (E : (Nat → Prop) → State → Heap → Prop) (w : va_W) (sz : Nat) (U : State) : Prop :=
  U.heap.size = sz ∧ va_P D cl w U.heap ∧ va_K D cl tys U ∧ va_D (fun _ => True) w ∧ E (va_A w sz) U U.heap
/-- what it leaves -/
def gAt (D : va_G) (cl : List vw_C) (tys : List (ClassId × FieldType)) {S : Type} (w : S → va_W) (A : Nat → Prop) (u : S) (t : State) : Prop :=
  va_P D cl (w u) t.heap ∧ va_K D cl tys t ∧ va_D A (w u)
/-- statics that stay -/
def gE (E : (Nat → Prop) → State → Heap → Prop) : Prop :=
  (∀ (A : Nat → Prop) (u U : State) (H : Heap), u.WarmedH U.vm → E A u H → E A U H) ∧
  (∀ (A : Nat → Prop) (U : State) (H H1 : Heap), (∀ a : Nat, a < H.size → ¬ A a → H1[a]? = H[a]?) → E A U H → E A U H1) ∧
  (∀ (A B : Nat → Prop) (U : State) (H : Heap), (∀ q, B q → A q) → E A U H → E B U H)
theorem gB_blind {D : va_G} {cl : List vw_C} {tys : List (ClassId × FieldType)} {E : (Nat → Prop) → State → Heap → Prop} (hg : gE E) {w : va_W} {sz : Nat} {av : List Value} : FrameBlind (va_Pc av (gB D cl tys E w sz)) := by
  intro a U g mk q
  obtain ⟨q0, q1, qP, qK, qD, qE⟩ := q
  exact ⟨q0, q1, qP, va_K.moved (u := U) (U := U.calling g mk a) (Vm.Alike.refl U.vm) qK, qD, hg.1 _ U (U.calling g mk a) _ (State.WarmedH.refl U) qE⟩
theorem g_free {A : Nat → Prop} {w : va_W} {H0 H : Heap} {locs : List Loc} (hD : va_D A w) (hS : va_S A H0 H locs) (hA : ∀ q, H0.size ≤ q → A q) : ∀ q, va_A w H.size q → A q := by
  intro q h
  rcases h with ⟨k, e, h⟩ | h
  · exact hD.2 k (q, e) h
  · exact hA q (Nat.le_trans hS.1 h)
theorem gB_pre {D : va_G} {cl : List vw_C} {tys : List (ClassId × FieldType)} {E : (Nat → Prop) → State → Heap → Prop} (hg : gE E) {s : State} {A : Nat → Prop} {w : va_W} {H : Heap} {locs : List Loc} {av : List Value} (hP : va_P D cl w H) (hK : va_K D cl tys s) (hD : va_D A w) (hE : E A s s.heap) (hS : va_S A s.heap H locs) (hA : ∀ q, s.heap.size ≤ q → A q) :
    ∀ U : State, U.heap = H → s.WarmedH U.vm → va_Pc av (gB D cl tys E w H.size) av.toArray U := by
  intro U hU hW
  refine ⟨rfl, by rw [hU], by rw [hU]; exact hP, va_K.moved hW.alike hK, hD.weaken (fun _ _ _ _ => trivial), ?_⟩
  rw [hU]
  exact hg.1 _ s U _ hW (hg.2.2 A _ s H (g_free hD hS hA) (hg.2.1 A s s.heap H hS.2.1 hE))
section GC
variable {p : Program} {l : Launch} {e : Env} {R : Room} {s : State} {m : MethodId} {args : Array Value} {below : List Frame} {meth : Method} {c : Code} {H : Heap} {locs : List Loc} {cells slots : Nat} {Q : State → Prop}
variable {cc : ByteArray} {pc : Nat} {ls : Array Slot} {rest st0 : List Value} {a : Array Value} {A : Nat → Prop} {mc ms : Nat} {D : va_G} {cl : List vw_C} {tys : List (ClassId × FieldType)} {S : Type} {w : S → va_W} {u : S}
theorem gc_i {post : Int32 → S → Prop} (hr : va_Run p l e R s m args below meth c H locs cells slots mc ms (F0 m pc ls st0) rest (va_Qi post (gAt D cl tys w (va_A (w u) H.size)) (va_A (w u) H.size) a) (va_A (w u) H.size)) (hD : va_D A (w u)) (hS : va_S A s.heap H locs) (hA : ∀ q, s.heap.size ≤ q → A q)
    (kk : ∀ (r : Int32) (u1 : S) (H1 : Heap) (locs1 : List Loc), post r u1 → va_P D cl (w u1) H1 → va_D A (w u1) → va_S A s.heap H1 locs1 → W p l e R s m args below meth c H1 locs1 (cells + mc) (slots + ms) Q (F0 m (pc + 3) ls (.int r :: rest))) : W p l e R s m args below meth c H locs cells slots Q (F0 m pc ls st0) := by
  have hF := g_free hD hS hA
  refine va_calli hr hS (fun q _ h => hF q h) hF (fun r u t H1 locs ht hvm hw hB hz1 hk1 hS => ?_)
  obtain ⟨hP1, hK1, hD1⟩ := hB
  rw [ht] at hP1
  exact kk r u H1 locs hw hP1 (hD1.weaken (fun k q _ h => hF q.1 h)) hS
theorem gc_d {post : UInt64 → S → Prop} (hr : va_Run p l e R s m args below meth c H locs cells slots mc ms (F0 m pc ls st0) rest (va_Qd post (gAt D cl tys w (va_A (w u) H.size)) (va_A (w u) H.size) a) (va_A (w u) H.size)) (hD : va_D A (w u)) (hS : va_S A s.heap H locs) (hA : ∀ q, s.heap.size ≤ q → A q)
    (kk : ∀ (r : UInt64) (u1 : S) (H1 : Heap) (locs1 : List Loc), post r u1 → va_P D cl (w u1) H1 → va_D A (w u1) → va_S A s.heap H1 locs1 → W p l e R s m args below meth c H1 locs1 (cells + mc) (slots + ms) Q (F0 m (pc + 3) ls (.double r :: rest))) : W p l e R s m args below meth c H locs cells slots Q (F0 m pc ls st0) := by
  have hF := g_free hD hS hA
  refine va_calld hr hS (fun q _ h => hF q h) hF (fun r u t H1 locs ht hvm hw hB hz1 hk1 hS => ?_)
  obtain ⟨hP1, hK1, hD1⟩ := hB
  rw [ht] at hP1
  exact kk r u H1 locs hw hP1 (hD1.weaken (fun k q _ h => hF q.1 h)) hS
theorem gc_v {post : S → Prop} (hr : va_Run p l e R s m args below meth c H locs cells slots mc ms (F0 m pc ls st0) rest (va_Qv post (gAt D cl tys w (va_A (w u) H.size)) (va_A (w u) H.size) a) (va_A (w u) H.size)) (hD : va_D A (w u)) (hS : va_S A s.heap H locs) (hA : ∀ q, s.heap.size ≤ q → A q)
    (kk : ∀ (u1 : S) (H1 : Heap) (locs1 : List Loc), post u1 → va_P D cl (w u1) H1 → va_D A (w u1) → va_S A s.heap H1 locs1 → W p l e R s m args below meth c H1 locs1 (cells + mc) (slots + ms) Q (F0 m (pc + 3) ls rest)) : W p l e R s m args below meth c H locs cells slots Q (F0 m pc ls st0) := by
  have hF := g_free hD hS hA
  refine va_callv hr hS (fun q _ h => hF q h) hF (fun u t H1 locs ht hvm hw hB hz1 hk1 hS => ?_)
  obtain ⟨hP1, hK1, hD1⟩ := hB
  rw [ht] at hP1
  exact kk u H1 locs hw hP1 (hD1.weaken (fun k q _ h => hF q.1 h)) hS
theorem gc_q {post : Option Nat → S → Prop} (hr : va_Run p l e R s m args below meth c H locs cells slots mc ms (F0 m pc ls st0) rest (va_Qq post (gAt D cl tys w (va_A (w u) H.size)) (va_A (w u) H.size) a) (va_A (w u) H.size)) (hD : va_D A (w u)) (hS : va_S A s.heap H locs) (hA : ∀ q, s.heap.size ≤ q → A q)
    (kk : ∀ (r : Option Nat) (u1 : S) (H1 : Heap) (locs1 : List Loc), post r u1 → va_P D cl (w u1) H1 → va_D A (w u1) → va_S A s.heap H1 locs1 → W p l e R s m args below meth c H1 locs1 (cells + mc) (slots + ms) Q (F0 m (pc + 3) ls (va_rf r :: rest))) : W p l e R s m args below meth c H locs cells slots Q (F0 m pc ls st0) := by
  have hF := g_free hD hS hA
  refine va_callq hr hS (fun q _ h => hF q h) hF (fun r u t H1 locs ht hvm hw hB hz1 hk1 hS => ?_)
  obtain ⟨hP1, hK1, hD1⟩ := hB
  rw [ht] at hP1
  exact kk r u H1 locs hw hP1 (hD1.weaken (fun k q _ h => hF q.1 h)) hS
/-- returns -/
theorem gr_i {post : Int32 → S → Prop} {v : Int32} (hx : p.tables.exec = Jvm.exec) (hb : c.code = cc) (hr : meth.sig.returnType = some .int) (hlocks : meth.locks = false) (h : post v u) (hP : va_P D cl (w u) H) (hK : va_K D cl tys s) (hD : va_D A (w u)) (hS : va_S A s.heap H locs) (hdg : decode cc pc = .ok (.ireturn, 1)) : W p l e R s m args below meth c H locs cells slots (MQ below (va_Qi post (gAt D cl tys w A) A) args s cells slots A) (F0 m pc ls [.int v]) :=
  W.iret hx hb hr (fun t ht hW => ⟨⟨v, u, rfl, h, by rw [ht]; exact hP, va_K.moved hW.alike hK, hD⟩, hS.F ht⟩) hS.2.2 hdg
theorem gr_z {post : Int32 → S → Prop} {v : Int32} (hx : p.tables.exec = Jvm.exec) (hb : c.code = cc) (hr : meth.sig.returnType = some .boolean) (hlocks : meth.locks = false) (hn : narrow .boolean (.int v) = .int v) (h : post v u) (hP : va_P D cl (w u) H) (hK : va_K D cl tys s) (hD : va_D A (w u)) (hS : va_S A s.heap H locs) (hdg : decode cc pc = .ok (.ireturn, 1)) : W p l e R s m args below meth c H locs cells slots (MQ below (va_Qi post (gAt D cl tys w A) A) args s cells slots A) (F0 m pc ls [.int v]) :=
  W.zret hx hb hr hn (fun t ht hW => ⟨⟨v, u, rfl, h, by rw [ht]; exact hP, va_K.moved hW.alike hK, hD⟩, hS.F ht⟩) hS.2.2 hdg
theorem gr_d {post : UInt64 → S → Prop} {v : UInt64} (hx : p.tables.exec = Jvm.exec) (hb : c.code = cc) (hr : meth.sig.returnType = some .double) (hlocks : meth.locks = false) (h : post v u) (hP : va_P D cl (w u) H) (hK : va_K D cl tys s) (hD : va_D A (w u)) (hS : va_S A s.heap H locs) (hdg : decode cc pc = .ok (.dreturn, 1)) : W p l e R s m args below meth c H locs cells slots (MQ below (va_Qd post (gAt D cl tys w A) A) args s cells slots A) (F0 m pc ls [.double v]) :=
  W.dret hx hb hr (fun t ht hW => ⟨⟨v, u, rfl, h, by rw [ht]; exact hP, va_K.moved hW.alike hK, hD⟩, hS.F ht⟩) hS.2.2 hdg
theorem gr_v {post : S → Prop} (hx : p.tables.exec = Jvm.exec) (hb : c.code = cc) (hr : meth.sig.returnType = none) (hlocks : meth.locks = false) (h : post u) (hP : va_P D cl (w u) H) (hK : va_K D cl tys s) (hD : va_D A (w u)) (hS : va_S A s.heap H locs) (hdg : decode cc pc = .ok (.return_, 1)) : W p l e R s m args below meth c H locs cells slots (MQ below (va_Qv post (gAt D cl tys w A) A) args s cells slots A) (F0 m pc ls []) :=
  W.vret hx hb hr (fun t ht hW => ⟨⟨u, rfl, h, by rw [ht]; exact hP, va_K.moved hW.alike hK, hD⟩, hS.F ht⟩) hS.2.2 hdg
theorem gr_q {post : Option Nat → S → Prop} {v : Option Nat} {n : String} (hx : p.tables.exec = Jvm.exec) (hb : c.code = cc) (hr : meth.sig.returnType = some (.object n)) (hlocks : meth.locks = false) (h : post v u) (hP : va_P D cl (w u) H) (hK : va_K D cl tys s) (hD : va_D A (w u)) (hS : va_S A s.heap H locs) (hdg : decode cc pc = .ok (.areturn, 1)) : W p l e R s m args below meth c H locs cells slots (MQ below (va_Qq post (gAt D cl tys w A) A) args s cells slots A) (F0 m pc ls [va_rf v]) :=
  W.aret hx hb hr (Or.inl ⟨n, rfl⟩) (va_rf_or v) (fun t ht hW => ⟨⟨v, u, rfl, h, by rw [ht]; exact hP, va_K.moved hW.alike hK, hD⟩, hS.F ht⟩) hS.2.2 hdg
/-- references that may be null: named, loaded, stored -/
theorem gq_top {r : Option Nat} (k : ∀ y : Option Nat, y = r → W p l e R s m args below meth c H locs cells slots Q (F0 m pc ls (va_rf y :: rest))) : W p l e R s m args below meth c H locs cells slots Q (F0 m pc ls (va_rf r :: rest)) := k r rfl
theorem gq_aload_n (hx : p.tables.exec = Jvm.exec) (hb : c.code = cc) {k : Fin 4} {i : Nat} {r : Option Nat} (hdg : decode cc pc = .ok (.aload_n k, 1)) (hi : (k : Nat) = i) (hl : ls[i]? = some (.val (va_rf r)))
    (kk : W p l e R s m args below meth c H locs cells slots Q (F0 m (pc + 1) ls (va_rf r :: rest))) : W p l e R s m args below meth c H locs cells slots Q (F0 m pc ls rest) := by
  cases r with
  | none => exact lv_aload_nN hx hb hdg hi hl kk
  | some y => exact lv_aload_n hx hb hdg hi hl kk
theorem gq_aload (hx : p.tables.exec = Jvm.exec) (hb : c.code = cc) {i : Nat} {r : Option Nat} (hdg : decode cc pc = .ok (.aload i, 2)) (hl : ls[i]? = some (.val (va_rf r)))
    (kk : W p l e R s m args below meth c H locs cells slots Q (F0 m (pc + 2) ls (va_rf r :: rest))) : W p l e R s m args below meth c H locs cells slots Q (F0 m pc ls rest) := by
  cases r with
  | none => exact lv_aloadN hx hb hdg hl kk
  | some y => exact lv_aload hx hb hdg hl kk
theorem gq_astore_n (hx : p.tables.exec = Jvm.exec) (hb : c.code = cc) {k : Fin 4} {i nL : Nat} {r : Option Nat} {lv lv' : List (Nat × Value)} (hdg : decode cc pc = .ok (.astore_n k, 1)) (hi : (k : Nat) = i) (h : lv_has ls nL lv) (hn : i < nL) (hl : (i, va_rf r) :: lv.filter (fun q => !(q.1 == i) && !(q.1 + 1 == i && q.2.category == 2)) = lv')
    (kk : ∀ ls' : Array Slot, lv_has ls' nL lv' → W p l e R s m args below meth c H locs cells slots Q (F0 m (pc + 1) ls' rest)) : W p l e R s m args below meth c H locs cells slots Q (F0 m pc ls (va_rf r :: rest)) := by
  cases r with
  | none => exact lv_astore_nN hx hb hdg hi h hn hl kk
  | some y => exact lv_astore_n hx hb hdg hi h hn hl kk
theorem gq_astore (hx : p.tables.exec = Jvm.exec) (hb : c.code = cc) {i nL : Nat} {r : Option Nat} {lv lv' : List (Nat × Value)} (hdg : decode cc pc = .ok (.astore i, 2)) (h : lv_has ls nL lv) (hn : i < nL) (hl : (i, va_rf r) :: lv.filter (fun q => !(q.1 == i) && !(q.1 + 1 == i && q.2.category == 2)) = lv')
    (kk : ∀ ls' : Array Slot, lv_has ls' nL lv' → W p l e R s m args below meth c H locs cells slots Q (F0 m (pc + 2) ls' rest)) : W p l e R s m args below meth c H locs cells slots Q (F0 m pc ls (va_rf r :: rest)) := by
  cases r with
  | none => exact lv_astoreN hx hb hdg h hn hl kk
  | some y => exact lv_astore hx hb hdg h hn hl kk
/-- an array of references gets one that may be null -/
theorem gq_aast {H0 : Heap} (hx : p.tables.exec = Jvm.exec) (hb : c.code = cc) {ws : va_W} {a0 : Nat} (hK : va_K D cl tys s) (hP : va_P D cl ws H) (hD : va_D A ws) (hS : va_S A H0 H locs) (q0 t0 ci : Nat) {cA : ClassId} {r : vw_C} {n : Nat} {f : Nat → Option Nat} {v : Option Nat} (ha : ws[q0]? = some (a0, .inl (cA, n, .inr (.inr (.inr (.inr f)))))) (ht : tys[t0]? = some (cA, .object r.1)) (hv : ∀ y, v = some y → ∃ (qk : Nat) (vs : List Value), ws[qk]? = some (y, .inr (ci, vs))) (hc : cl[ci]? = some r) {i : Int32} (hin : vp_in i n) (hdg : decode cc pc = .ok (.aastore, 1))
    (kk : ∀ (H1 : Heap) (locs1 : List Loc), va_P D cl (ws.set q0 (a0, .inl (cA, n, .inr (.inr (.inr (.inr (va_up f i.toNatClampNeg v))))))) H1 → va_D A (ws.set q0 (a0, .inl (cA, n, .inr (.inr (.inr (.inr (va_up f i.toNatClampNeg v))))))) → va_S A H0 H1 locs1 → W p l e R s m args below meth c H1 locs1 cells slots Q (F0 m (pc + 1) ls rest)) : W p l e R s m args below meth c H locs cells slots Q (F0 m pc ls (va_rf v :: .int i :: .ref a0 :: rest)) := by
  cases v with
  | none => exact va_astqN hx hb hK hP hD hS q0 t0 ha ht hin hdg kk
  | some y =>
    obtain ⟨qk, vs, hq⟩ := hv y rfl
    exact va_astq hx hb hK hP hD hS q0 t0 qk ci ha ht hq hc hin hdg kk
end GC
/-! two pools behind the fixed cells -/
theorem g2_get {X P2 : va_W} {L : List Nat} {f : Nat → va_E} {a : Nat} (h : a ∈ L) : ∃ k : Nat, ((X ++ va_pl L f) ++ P2)[k]? = some (a, f a) := by
  obtain ⟨k, hk⟩ := va_pl_get (X := X) (f := f) h
  exact ⟨k, by rw [List.getElem?_append_left (List.getElem?_eq_some_iff.mp hk).1]; exact hk⟩
theorem g2_set {A : Nat → Prop} {X P2 : va_W} {L : List Nat} {f : Nat → va_E} {a k : Nat} {e : va_E} (hD : va_D A ((X ++ va_pl L f) ++ P2)) (h : a ∈ L) (hk : ((X ++ va_pl L f) ++ P2)[k]? = some (a, f a)) : ((X ++ va_pl L f) ++ P2).set k (a, e) = (X ++ va_pl L (va_up f a e)) ++ P2 := by
  obtain ⟨k1, hk1⟩ := va_pl_get (X := X) (f := f) h
  have hl := (List.getElem?_eq_some_iff.mp hk1).1
  have hk2 : ((X ++ va_pl L f) ++ P2)[k1]? = some (a, f a) := by rw [List.getElem?_append_left hl]; exact hk1
  have hkk : k = k1 := hD.1 k k1 _ _ hk hk2 rfl
  subst hkk
  have hD1 : va_D A (X ++ va_pl L f) := hD.by id (fun j q hj => by
    show ((X ++ va_pl L f) ++ P2)[j]? = some q
    rw [List.getElem?_append_left (List.getElem?_eq_some_iff.mp hj).1]; exact hj) (fun i j _ _ e => e)
  rw [List.set_append_left _ _ hl, va_pl_set hD1 h hk1]
/-! a state: numbers, doubles, arrays of each, references that may be null; one kind for both worlds -/
abbrev gS : Type := (Nat → Int32) × (Nat → UInt64) × (Nat → Nat → Int32) × (Nat → Nat → UInt64) × (Nat → Nat → Option Nat)
def sI (u : gS) (k : Nat) : Int32 := u.1 k
def sD (u : gS) (k : Nat) : UInt64 := u.2.1 k
def sA (u : gS) (k i : Nat) : Int32 := u.2.2.1 k i
def sB (u : gS) (k i : Nat) : UInt64 := u.2.2.2.1 k i
def sQ (u : gS) (k i : Nat) : Option Nat := u.2.2.2.2 k i
def tI (u : gS) (k : Nat) (v : Int32) : gS := (va_up u.1 k v, u.2)
def tD (u : gS) (k : Nat) (v : UInt64) : gS := (u.1, va_up u.2.1 k v, u.2.2)
def tA (u : gS) (k i : Nat) (v : Int32) : gS := (u.1, u.2.1, va_up u.2.2.1 k (va_up (u.2.2.1 k) i v), u.2.2.2)
def tB (u : gS) (k i : Nat) (v : UInt64) : gS := (u.1, u.2.1, u.2.2.1, va_up u.2.2.2.1 k (va_up (u.2.2.2.1 k) i v), u.2.2.2.2)
def tQ (u : gS) (k i : Nat) (v : Option Nat) : gS := (u.1, u.2.1, u.2.2.1, u.2.2.2.1, va_up u.2.2.2.2 k (va_up (u.2.2.2.2 k) i v))
theorem sI_tI (u : gS) (k : Nat) (v : Int32) (j : Nat) : sI (tI u k v) j = if j = k then v else sI u j := rfl
theorem sI_tD (u : gS) (k : Nat) (v : UInt64) (j : Nat) : sI (tD u k v) j = sI u j := rfl
theorem sI_tA (u : gS) (k i : Nat) (v : Int32) (j : Nat) : sI (tA u k i v) j = sI u j := rfl
theorem sI_tB (u : gS) (k i : Nat) (v : UInt64) (j : Nat) : sI (tB u k i v) j = sI u j := rfl
theorem sI_tQ (u : gS) (k i : Nat) (v : Option Nat) (j : Nat) : sI (tQ u k i v) j = sI u j := rfl
theorem sD_tI (u : gS) (k : Nat) (v : Int32) (j : Nat) : sD (tI u k v) j = sD u j := rfl
theorem sD_tD (u : gS) (k : Nat) (v : UInt64) (j : Nat) : sD (tD u k v) j = if j = k then v else sD u j := rfl
theorem sD_tA (u : gS) (k i : Nat) (v : Int32) (j : Nat) : sD (tA u k i v) j = sD u j := rfl
theorem sD_tB (u : gS) (k i : Nat) (v : UInt64) (j : Nat) : sD (tB u k i v) j = sD u j := rfl
theorem sD_tQ (u : gS) (k i : Nat) (v : Option Nat) (j : Nat) : sD (tQ u k i v) j = sD u j := rfl
theorem sA_tI (u : gS) (k : Nat) (v : Int32) (a b : Nat) : sA (tI u k v) a b = sA u a b := rfl
theorem sA_tD (u : gS) (k : Nat) (v : UInt64) (a b : Nat) : sA (tD u k v) a b = sA u a b := rfl
theorem sA_tA (u : gS) (k i : Nat) (v : Int32) (a b : Nat) : sA (tA u k i v) a b = if a = k then (if b = i then v else sA u k b) else sA u a b := by
  show va_up u.2.2.1 k (va_up (u.2.2.1 k) i v) a b = _
  unfold va_up sA
  by_cases h : a = k
  · rw [if_pos h, if_pos h]
  · rw [if_neg h, if_neg h]
theorem sA_tB (u : gS) (k i : Nat) (v : UInt64) (a b : Nat) : sA (tB u k i v) a b = sA u a b := rfl
theorem sA_tQ (u : gS) (k i : Nat) (v : Option Nat) (a b : Nat) : sA (tQ u k i v) a b = sA u a b := rfl
theorem sB_tI (u : gS) (k : Nat) (v : Int32) (a b : Nat) : sB (tI u k v) a b = sB u a b := rfl
theorem sB_tD (u : gS) (k : Nat) (v : UInt64) (a b : Nat) : sB (tD u k v) a b = sB u a b := rfl
theorem sB_tA (u : gS) (k i : Nat) (v : Int32) (a b : Nat) : sB (tA u k i v) a b = sB u a b := rfl
theorem sB_tB (u : gS) (k i : Nat) (v : UInt64) (a b : Nat) : sB (tB u k i v) a b = if a = k then (if b = i then v else sB u k b) else sB u a b := by
  show va_up u.2.2.2.1 k (va_up (u.2.2.2.1 k) i v) a b = _
  unfold va_up sB
  by_cases h : a = k
  · rw [if_pos h, if_pos h]
  · rw [if_neg h, if_neg h]
theorem sB_tQ (u : gS) (k i : Nat) (v : Option Nat) (a b : Nat) : sB (tQ u k i v) a b = sB u a b := rfl
theorem sQ_tI (u : gS) (k : Nat) (v : Int32) (a b : Nat) : sQ (tI u k v) a b = sQ u a b := rfl
theorem sQ_tD (u : gS) (k : Nat) (v : UInt64) (a b : Nat) : sQ (tD u k v) a b = sQ u a b := rfl
theorem sQ_tA (u : gS) (k i : Nat) (v : Int32) (a b : Nat) : sQ (tA u k i v) a b = sQ u a b := rfl
theorem sQ_tB (u : gS) (k i : Nat) (v : UInt64) (a b : Nat) : sQ (tB u k i v) a b = sQ u a b := rfl
theorem sQ_tQ (u : gS) (k i : Nat) (v : Option Nat) (a b : Nat) : sQ (tQ u k i v) a b = if a = k then (if b = i then v else sQ u k b) else sQ u a b := by
  show va_up u.2.2.2.2 k (va_up (u.2.2.2.2 k) i v) a b = _
  unfold va_up sQ
  by_cases h : a = k
  · rw [if_pos h, if_pos h]
  · rw [if_neg h, if_neg h]
