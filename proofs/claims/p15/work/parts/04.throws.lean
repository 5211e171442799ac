/-! methods that throw (over the family of names vx_ that stands ahead of the printed names): what leaves them carries its class's name and the world -/
def gX (D : va_G) (cl : List vw_C) (tys : List (ClassId × FieldType)) {S : Type} (w : S → va_W) (px : String → S → Prop) (A : Nat → Prop) : String → State → State → Prop :=
  vx_X (S := String × S) (fun z => px z.1 z.2) (fun E z t => z.1 = E ∧ gAt D cl tys w A z.2 t) A
section GX
variable {p : Program} {l : Launch} {e : Env} {R : Room} {s : State} {m : MethodId} {args : Array Value} {below : List Frame} {meth : Method} {c : Code} {H : Heap} {locs : List Loc} {cells slots : Nat} {Q : State → Prop}
variable {cc : ByteArray} {pc : Nat} {ls : Array Slot} {rest st0 : List Value} {a : Array Value} {A : Nat → Prop} {mc ms : Nat} {D : va_G} {cl : List vw_C} {tys : List (ClassId × FieldType)} {S : Type} {w : S → va_W} {u : S}
variable {Qc : Array Value → State → Outcome → State → Prop} {px : String → S → Prop}
/-- not caught here -/
theorem gx_out {E : String} {ce : Cell} {q : Addr} (hno : ∀ x ∈ c.exceptionTable.toList, False) (hlocks : meth.locks = false) (h : px E u) (hP : va_P D cl (w u) H) (hK : va_K D cl tys s) (hD : va_D A (w u)) (hS : va_S A s.heap H locs) (hce : H[q]? = some ce) (hcv : ce.vm = .none) (hcl : s.vm.findClass E = some ce.cls) (hc : cells ≤ mc) (hs : slots ≤ ms) :
    vx_W p l e R s m args below meth c H locs cells slots (vx_MQ below Qc (gX D cl tys w px A) args s mc ms A) (F0 m pc ls rest) q :=
  vx_out (fun x hx => (hno x hx).elim) hlocks hce hcv hcl (fun t ht ha => ⟨(E, u), h, ⟨rfl, by rw [ht]; exact hP, va_K.moved ha hK, hD⟩, hS.F ht⟩) hS.2.2 hc hs
/-- calls of such methods: what they throw goes on to kx -/
theorem gxc_i {post : Int32 → S → Prop} {py : String → S → Prop} (hr : vx_Run p l e R s m args below meth c H locs cells slots mc ms (F0 m pc ls st0) rest (va_Qi post (gAt D cl tys w (va_A (w u) H.size)) (va_A (w u) H.size) a) (gX D cl tys w py (va_A (w u) H.size)) (va_A (w u) H.size)) (hD : va_D A (w u)) (hS : va_S A s.heap H locs) (hA : ∀ q, s.heap.size ≤ q → A q)
    (kx : ∀ (E : String) (ce : Cell) (q : Addr) (u1 : S) (H1 : Heap) (locs1 : List Loc), py E u1 → va_P D cl (w u1) H1 → va_D A (w u1) → va_S A s.heap H1 locs1 → H1[q]? = some ce → ce.vm = .none → s.vm.findClass E = some ce.cls → vx_W p l e R s m args below meth c H1 locs1 (cells + mc) (slots + ms) Q (F0 m pc ls rest) q)
    (kk : ∀ (r : Int32) (u1 : S) (H1 : Heap) (locs1 : List Loc), post r u1 → va_P D cl (w u1) H1 → va_D A (w u1) → va_S A s.heap H1 locs1 → W p l e R s m args below meth c H1 locs1 (cells + mc) (slots + ms) Q (F0 m (pc + 3) ls (.int r :: rest))) : W p l e R s m args below meth c H locs cells slots Q (F0 m pc ls st0) := by
  have hF := g_free hD hS hA
  refine vx_calli hr hS (fun q _ h => hF q h) hF (fun q _ h => hF q h) (fun E ce q z t H1 locs ht hvm hw hB hz1 hk1 hS hce hcv hcl => ?_) (fun r u t H1 locs ht hvm hw hB hz1 hk1 hS => ?_)
  · obtain ⟨E', u1⟩ := z
    obtain ⟨rfl, hP1, hK1, hD1⟩ := hB
    rw [ht] at hP1
    exact kx _ ce q u1 H1 locs hw hP1 (hD1.weaken (fun k q _ h => hF q.1 h)) hS hce hcv hcl
  · obtain ⟨hP1, hK1, hD1⟩ := hB
    rw [ht] at hP1
    exact kk r u H1 locs hw hP1 (hD1.weaken (fun k q _ h => hF q.1 h)) hS
theorem gxc_v {post : S → Prop} {py : String → S → Prop} (hr : vx_Run p l e R s m args below meth c H locs cells slots mc ms (F0 m pc ls st0) rest (va_Qv post (gAt D cl tys w (va_A (w u) H.size)) (va_A (w u) H.size) a) (gX D cl tys w py (va_A (w u) H.size)) (va_A (w u) H.size)) (hD : va_D A (w u)) (hS : va_S A s.heap H locs) (hA : ∀ q, s.heap.size ≤ q → A q)
    (kx : ∀ (E : String) (ce : Cell) (q : Addr) (u1 : S) (H1 : Heap) (locs1 : List Loc), py E u1 → va_P D cl (w u1) H1 → va_D A (w u1) → va_S A s.heap H1 locs1 → H1[q]? = some ce → ce.vm = .none → s.vm.findClass E = some ce.cls → vx_W p l e R s m args below meth c H1 locs1 (cells + mc) (slots + ms) Q (F0 m pc ls rest) q)
    (kk : ∀ (u1 : S) (H1 : Heap) (locs1 : List Loc), post u1 → va_P D cl (w u1) H1 → va_D A (w u1) → va_S A s.heap H1 locs1 → W p l e R s m args below meth c H1 locs1 (cells + mc) (slots + ms) Q (F0 m (pc + 3) ls rest)) : W p l e R s m args below meth c H locs cells slots Q (F0 m pc ls st0) := by
  have hF := g_free hD hS hA
  refine vx_callv hr hS (fun q _ h => hF q h) hF (fun q _ h => hF q h) (fun E ce q z t H1 locs ht hvm hw hB hz1 hk1 hS hce hcv hcl => ?_) (fun u t H1 locs ht hvm hw hB hz1 hk1 hS => ?_)
  · obtain ⟨E', u1⟩ := z
    obtain ⟨rfl, hP1, hK1, hD1⟩ := hB
    rw [ht] at hP1
    exact kx _ ce q u1 H1 locs hw hP1 (hD1.weaken (fun k q _ h => hF q.1 h)) hS hce hcv hcl
  · obtain ⟨hP1, hK1, hD1⟩ := hB
    rw [ht] at hP1
    exact kk u H1 locs hw hP1 (hD1.weaken (fun k q _ h => hF q.1 h)) hS
theorem gxc_d {post : UInt64 → S → Prop} {py : String → S → Prop} (hr : vx_Run p l e R s m args below meth c H locs cells slots mc ms (F0 m pc ls st0) rest (va_Qd post (gAt D cl tys w (va_A (w u) H.size)) (va_A (w u) H.size) a) (gX D cl tys w py (va_A (w u) H.size)) (va_A (w u) H.size)) (hD : va_D A (w u)) (hS : va_S A s.heap H locs) (hA : ∀ q, s.heap.size ≤ q → A q)
    (kx : ∀ (E : String) (ce : Cell) (q : Addr) (u1 : S) (H1 : Heap) (locs1 : List Loc), py E u1 → va_P D cl (w u1) H1 → va_D A (w u1) → va_S A s.heap H1 locs1 → H1[q]? = some ce → ce.vm = .none → s.vm.findClass E = some ce.cls → vx_W p l e R s m args below meth c H1 locs1 (cells + mc) (slots + ms) Q (F0 m pc ls rest) q)
    (kk : ∀ (r : UInt64) (u1 : S) (H1 : Heap) (locs1 : List Loc), post r u1 → va_P D cl (w u1) H1 → va_D A (w u1) → va_S A s.heap H1 locs1 → W p l e R s m args below meth c H1 locs1 (cells + mc) (slots + ms) Q (F0 m (pc + 3) ls (.double r :: rest))) : W p l e R s m args below meth c H locs cells slots Q (F0 m pc ls st0) := by
  have hF := g_free hD hS hA
  refine vx_calld hr hS (fun q _ h => hF q h) hF (fun q _ h => hF q h) (fun E ce q z t H1 locs ht hvm hw hB hz1 hk1 hS hce hcv hcl => ?_) (fun r u t H1 locs ht hvm hw hB hz1 hk1 hS => ?_)
  · obtain ⟨E', u1⟩ := z
    obtain ⟨rfl, hP1, hK1, hD1⟩ := hB
    rw [ht] at hP1
    exact kx _ ce q u1 H1 locs hw hP1 (hD1.weaken (fun k q _ h => hF q.1 h)) hS hce hcv hcl
  · obtain ⟨hP1, hK1, hD1⟩ := hB
    rw [ht] at hP1
    exact kk r u H1 locs hw hP1 (hD1.weaken (fun k q _ h => hF q.1 h)) hS
/-- an answer that may be null (where the family has no row for it: out of the run itself) -/
theorem gxc_q {post : Option Nat → S → Prop} {py : String → S → Prop} (hr : vx_Run p l e R s m args below meth c H locs cells slots mc ms (F0 m pc ls st0) rest (va_Qq post (gAt D cl tys w (va_A (w u) H.size)) (va_A (w u) H.size) a) (gX D cl tys w py (va_A (w u) H.size)) (va_A (w u) H.size)) (hD : va_D A (w u)) (hS : va_S A s.heap H locs) (hA : ∀ q, s.heap.size ≤ q → A q)
    (kx : ∀ (E : String) (ce : Cell) (q : Addr) (u1 : S) (H1 : Heap) (locs1 : List Loc), py E u1 → va_P D cl (w u1) H1 → va_D A (w u1) → va_S A s.heap H1 locs1 → H1[q]? = some ce → ce.vm = .none → s.vm.findClass E = some ce.cls → vx_W p l e R s m args below meth c H1 locs1 (cells + mc) (slots + ms) Q (F0 m pc ls rest) q)
    (kk : ∀ (r : Option Nat) (u1 : S) (H1 : Heap) (locs1 : List Loc), post r u1 → va_P D cl (w u1) H1 → va_D A (w u1) → va_S A s.heap H1 locs1 → W p l e R s m args below meth c H1 locs1 (cells + mc) (slots + ms) Q (F0 m (pc + 3) ls (va_rf r :: rest))) : W p l e R s m args below meth c H locs cells slots Q (F0 m pc ls st0) := by
  have hF := g_free hD hS hA
  intro T hT X
  rcases hr T hT X with ⟨v, st₀, t, T', L, h0, X', hL, e1, e2, ⟨⟨r, u1, hv, hp, hB⟩, hFr⟩, st⟩ | ⟨q, st₀, t, T', L, E, ce, h0, X', hL, e1, e2, ⟨⟨E', u1⟩, hp, hB, hFr⟩, hce, hcv, hcl, st⟩
  · cases hv
    obtain ⟨k1, k2, k3⟩ := vx_keep h0 e1 hS (fun q _ h => hF q h) hF hL hFr
    obtain ⟨hP1, hK1, hD1⟩ := hB
    obtain ⟨t2, a1, b1⟩ := kk r u1 T'.heap (locs ++ L) hp (by rw [e1]; exact hP1) (hD1.weaken (fun k q _ h => hF q.1 h)) k3 T' rfl X'
    exact ⟨t2, st t2 a1, b1⟩
  · obtain ⟨k1, k2, k3⟩ := vx_keep h0 e1 hS (fun q _ h => hF q h) hF hL hFr
    obtain ⟨rfl, hP1, hK1, hD1⟩ := hB
    obtain ⟨t2, a1, b1⟩ := kx _ ce q u1 T'.heap (locs ++ L) hp (by rw [e1]; exact hP1) (hD1.weaken (fun k q _ h => hF q.1 h)) k3 (by rw [e1]; exact hce) hcv hcl T' rfl X'
    exact ⟨t2, st.trans a1, b1⟩
/-- the world behind a throw: nothing of it has changed -/
theorem gx_thrown {E : String} {t : State} (h : px E u) (hP : va_P D cl (w u) H) (hK : va_K D cl tys s) (hD : va_D A (w u)) (hS : va_S A s.heap H locs) (ha : s.vm.Alike t.vm) (hz : H.size ≤ t.heap.size) (hq : ∀ q : Nat, q < H.size → t.heap[q]? = H[q]?) : gX D cl tys w px A E s t :=
  ⟨(E, u), h, ⟨rfl, hP.kept (fun k q hk => hq _ (hP k q hk).lt), va_K.moved ha hK, hD⟩, ⟨Nat.le_trans hS.1 hz, fun q h1 h2 => by rw [hq q (Nat.lt_of_lt_of_le h1 hS.1)]; exact hS.2.1 q h1 h2⟩⟩
end GX
