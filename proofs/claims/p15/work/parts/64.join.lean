/-! worlds side by side, of any length -/
def gAp (a b : va_W) : Prop := ∀ (i j : Nat) (x y : Nat × va_E), a[i]? = some x → b[j]? = some y → x.1 ≠ y.1
theorem gAp.symm {a b : va_W} (h : gAp a b) : gAp b a := fun i j x y hx hy e => h j i y x hy hx e.symm
theorem gD_l {A : Nat → Prop} {a b : va_W} (h : va_D A (a ++ b)) : va_D A a := by
  have up : ∀ (k : Nat) (x : Nat × va_E), a[k]? = some x → (a ++ b)[k]? = some x := fun k x hk => by
    rw [List.getElem?_append_left (List.getElem?_eq_some_iff.mp hk).1]; exact hk
  exact ⟨fun i j x y hx hy e => h.1 i j x y (up i x hx) (up j y hy) e, fun k x hk => h.2 k x (up k x hk)⟩
theorem g_up {a b : va_W} {k : Nat} {x : Nat × va_E} (hk : b[k]? = some x) : (a ++ b)[a.length + k]? = some x := by
  rw [List.getElem?_append_right (by omega), show a.length + k - a.length = k by omega]; exact hk
theorem gD_r {A : Nat → Prop} {a b : va_W} (h : va_D A (a ++ b)) : va_D A b :=
  ⟨fun i j x y hx hy e => by have := h.1 _ _ x y (g_up hx) (g_up hy) e; omega, fun k x hk => h.2 _ x (g_up hk)⟩
theorem gD_ap {A : Nat → Prop} {a b : va_W} (h : va_D A (a ++ b)) : gAp a b := by
  intro i j x y hx hy e
  have hi := (List.getElem?_eq_some_iff.mp hx).1
  have hx' : (a ++ b)[i]? = some x := by rw [List.getElem?_append_left hi]; exact hx
  have := h.1 _ _ x y hx' (g_up hy) e
  omega
theorem g_part {a b : va_W} {k : Nat} {x : Nat × va_E} (h : (a ++ b)[k]? = some x) : a[k]? = some x ∨ (a.length ≤ k ∧ b[k - a.length]? = some x) := by
  by_cases hk : k < a.length
  · rw [List.getElem?_append_left hk] at h; exact Or.inl h
  · rw [List.getElem?_append_right (by omega)] at h; exact Or.inr ⟨by omega, h⟩
theorem gD_app {A : Nat → Prop} {a b : va_W} (ha : va_D A a) (hb : va_D A b) (hab : gAp a b) : va_D A (a ++ b) := by
  refine ⟨fun i j x y hx hy e => ?_, fun k x hk => ?_⟩
  · rcases g_part hx with h1 | ⟨l1, h1⟩ <;> rcases g_part hy with h2 | ⟨l2, h2⟩
    · exact ha.1 i j x y h1 h2 e
    · exact absurd e (hab _ _ x y h1 h2)
    · exact absurd e.symm (hab _ _ y x h2 h1)
    · have := hb.1 _ _ x y h1 h2 e; omega
  · rcases g_part hk with h | ⟨-, h⟩
    · exact ha.2 k x h
    · exact hb.2 _ x h
theorem gP_l {D : va_G} {cl : List vw_C} {a b : va_W} {H : Heap} (h : va_P D cl (a ++ b) H) : va_P D cl a H := fun k x hk => h k x (by rw [List.getElem?_append_left (List.getElem?_eq_some_iff.mp hk).1]; exact hk)
theorem gP_r {D : va_G} {cl : List vw_C} {a b : va_W} {H : Heap} (h : va_P D cl (a ++ b) H) : va_P D cl b H := fun k x hk => h _ x (g_up hk)
theorem gP_app {D : va_G} {cl : List vw_C} {a b : va_W} {H : Heap} (ha : va_P D cl a H) (hb : va_P D cl b H) : va_P D cl (a ++ b) H := fun k x hk => by
  rcases g_part hk with h | ⟨-, h⟩
  · exact ha k x h
  · exact hb _ x h
/-- what a call on wc leaves as it was -/
theorem gl_kept {D : va_G} {cl : List vw_C} {wc wr : va_W} {H H1 : Heap} (hr : va_P D cl wr H) (ap : gAp wc wr) (hk : ∀ q : Nat, q < H.size → ¬ va_A wc H.size q → H1[q]? = H[q]?) : va_P D cl wr H1 := by
  refine hr.kept (fun k x hx => ?_)
  have hlt := (hr k x hx).lt
  refine hk x.1 hlt (fun h => ?_)
  rcases h with ⟨j, e, hj⟩ | h
  · exact ap j k (x.1, e) x hj hx rfl
  · exact absurd hlt (Nat.not_lt.mpr h)
theorem gl_ap {D : va_G} {cl : List vw_C} {wc wr w1 : va_W} {H : Heap} (hr : va_P D cl wr H) (ap : gAp wc wr) (hD1 : va_D (va_A wc H.size) w1) : gAp w1 wr := by
  intro i j x y hx hy e
  rcases hD1.2 i x hx with ⟨k, z, hk⟩ | h
  · exact ap k j (x.1, z) y hk hy e
  · have := (hr j y hy).lt
    rw [e] at h
    exact absurd this (Nat.not_lt.mpr h)
section GK2
variable {p : Program} {l : Launch} {e : Env} {R : Room} {s : State} {m : MethodId} {args : Array Value} {below : List Frame} {meth : Method} {c : Code} {H : Heap} {locs : List Loc} {cells slots : Nat} {Q : State → Prop}
variable {pc : Nat} {ls : Array Slot} {rest st0 : List Value} {a : Array Value} {A : Nat → Prop} {mc ms : Nat} {D : va_G} {cl : List vw_C} {S : Type} {tysO : S → List (ClassId × FieldType)} {w1 : S → va_W} {wc wr : va_W}
theorem gk2_v {post : S → Prop} (hr : va_Run p l e R s m args below meth c H locs cells slots mc ms (F0 m pc ls st0) rest (va_Qv post (cAt D cl tysO w1 (va_A wc H.size)) (va_A wc H.size) a) (va_A wc H.size)) (hP : va_P D cl (wr ++ wc) H) (hD : va_D A (wr ++ wc)) (hS : va_S A s.heap H locs) (hA : ∀ q, s.heap.size ≤ q → A q)
    (kk : ∀ (u1 : S) (H1 : Heap) (locs1 : List Loc), post u1 → va_K D cl (tysO u1) s → va_P D cl (wr ++ w1 u1) H1 → va_D A (wr ++ w1 u1) → va_S A s.heap H1 locs1 → W p l e R s m args below meth c H1 locs1 (cells + mc) (slots + ms) Q (F0 m (pc + 3) ls rest)) : W p l e R s m args below meth c H locs cells slots Q (F0 m pc ls st0) := by
  have hF := g_free (gD_r hD) hS hA
  refine va_callv hr hS (fun q _ h => hF q h) hF (fun u t H1 locs ht hvm hw hB hz1 hk1 hS => ?_)
  obtain ⟨hP1, hK1, hD1⟩ := hB
  rw [ht] at hP1
  have ap : gAp wc wr := (gD_ap hD).symm
  exact kk u H1 locs hw (va_K.moved hvm.symm hK1) (gP_app (gl_kept (gP_l hP) ap hk1) hP1) (gD_app (gD_l hD) (hD1.weaken (fun k q _ h => hF q.1 h)) (gl_ap (gP_l hP) ap hD1).symm) hS
end GK2
/-! a job more -/
def xJ5 (n k a b c : Int32) (j : Nat) : Int32 := if j = 0 then n else if j = 1 then k else if j = 2 then a else if j = 3 then b else c
def xUj (u : gS) (q : Nat) : gS := tQ (tA (tA (tA u 0 q 0) 1 q 0) 2 q 0) 3 q none
theorem xJ_push {ad : Nat → Nat} {ca : Nat → ClassId} {K : KX} {u : gS} {q : Nat} {n k a b c : Int32} (h : q ∉ K.2.2.1) : wX ad ca K u ++ [(q, .inr (5, [.int n, .int k, .int a, .int b, .int c, .int 0, .int 0, .int 0, .null]))] = wX ad ca (K.1, K.2.1, K.2.2.1 ++ [q], va_up K.2.2.2.1 q (xJ5 n k a b c), K.2.2.2.2) (xUj u q) := by
  show ((wXc ad ca K u ++ va_pl K.2.1 (xW K u)) ++ va_pl K.2.2.1 (xJ K u)) ++ _ = (wXc ad ca (K.1, K.2.1, K.2.2.1 ++ [q], va_up K.2.2.2.1 q (xJ5 n k a b c), K.2.2.2.2) (xUj u q) ++ va_pl K.2.1 (xW (K.1, K.2.1, K.2.2.1 ++ [q], va_up K.2.2.2.1 q (xJ5 n k a b c), K.2.2.2.2) (xUj u q))) ++ va_pl (K.2.2.1 ++ [q]) (xJ (K.1, K.2.1, K.2.2.1 ++ [q], va_up K.2.2.2.1 q (xJ5 n k a b c), K.2.2.2.2) (xUj u q))
  rw [List.append_assoc, va_pl_push h]
  have e1 : va_pl (K.2.2.1 ++ [q]) (va_up (xJ K u) q (.inr (5, [.int n, .int k, .int a, .int b, .int c, .int 0, .int 0, .int 0, .null]))) = va_pl (K.2.2.1 ++ [q]) (xJ (K.1, K.2.1, K.2.2.1 ++ [q], va_up K.2.2.2.1 q (xJ5 n k a b c), K.2.2.2.2) (xUj u q)) := by
    refine va_pl_congr (fun z => ?_)
    unfold va_up
    by_cases hz : z = q
    · rw [if_pos hz, hz]
      simp [xJ, xUj, xJ5, va_up, va_rf, sA_tA, sA_tQ, sQ_tQ]
    · rw [if_neg hz]
      simp [xJ, xUj, hz, sA_tA, sA_tQ, sQ_tQ, sQ_tA]
  rw [e1]
  rfl
