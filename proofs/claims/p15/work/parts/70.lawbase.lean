/-! the law's world: the two places for answers, the reference, the class -/
theorem gAp_l {a b c : va_W} (h1 : gAp a c) (h2 : gAp b c) : gAp (a ++ b) c := by
  intro i j x y hx hy e
  rcases g_part hx with h | ⟨-, h⟩
  · exact h1 _ _ x y h hy e
  · exact h2 _ _ x y h hy e
theorem gAp_r {a b c : va_W} (h1 : gAp c a) (h2 : gAp c b) : gAp c (a ++ b) := (gAp_l h1.symm h2.symm).symm
theorem gAp_1 {a b c : va_W} (h : gAp c (a ++ b)) : gAp c a := fun i j x y hx hy e => h i j x y hx (by rw [List.getElem?_append_left (List.getElem?_eq_some_iff.mp hy).1]; exact hy) e
theorem gAp_2 {a b c : va_W} (h : gAp c (a ++ b)) : gAp c b := fun i j x y hx hy e => h i _ x y hx (g_up hy) e
def lW (D : va_G) (am : Nat → Nat) (cm : Nat → ClassId) (KM : KM) (o : Nat) (cO : ClassId) (d : Nat) (cD : ClassId) (A : Nat → Prop) (H : Heap) (X : va_W) (v : gS) (f : Nat → Int64) (g : Nat → UInt64) : Prop :=
  va_P D vwCl (wO o cO f) H ∧ va_P D vwCl (wP d cD g) H ∧ va_P D vwCl (wM am cm KM v) H ∧ va_P D vwCl X H ∧
  (va_D A (wO o cO f) ∧ va_D A (wP d cD g) ∧ va_D A (wM am cm KM v) ∧ va_D A X) ∧
  gAp (wO o cO f) (wP d cD g) ∧ gAp (wO o cO f) (wM am cm KM v) ∧ gAp (wO o cO f) X ∧ gAp (wP d cD g) (wM am cm KM v) ∧ gAp (wP d cD g) X ∧ gAp (wM am cm KM v) X
section LW
variable {D : va_G} {am : Nat → Nat} {cm : Nat → ClassId} {KMv : KM} {o : Nat} {cO : ClassId} {d : Nat} {cD : ClassId} {A : Nat → Prop} {H : Heap} {X : va_W} {v : gS} {f : Nat → Int64} {g : Nat → UInt64}
theorem lW_O (h : lW D am cm KMv o cO d cD A H X v f g) : va_P D vwCl ((wP d cD g ++ wM am cm KMv v) ++ (wO o cO f ++ X)) H ∧ va_D A ((wP d cD g ++ wM am cm KMv v) ++ (wO o cO f ++ X)) := by
  obtain ⟨p1, p2, p3, p4, ⟨d1, d2, d3, d4⟩, a12, a13, a14, a23, a24, a34⟩ := h
  exact ⟨gP_app (gP_app p2 p3) (gP_app p1 p4), gD_app (gD_app d2 d3 a23) (gD_app d1 d4 a14) (gAp_l (gAp_r a12.symm a24) (gAp_r a13.symm a34))⟩
theorem lW_O' (hP : va_P D vwCl ((wP d cD g ++ wM am cm KMv v) ++ (wO o cO f ++ X)) H) (hD : va_D A ((wP d cD g ++ wM am cm KMv v) ++ (wO o cO f ++ X))) : lW D am cm KMv o cO d cD A H X v f g := by
  have p := gP_l hP; have q := gP_r hP; have dl := gD_l hD; have dr := gD_r hD; have ap := gD_ap hD
  have x1 := gAp_1 ap; have x2 := gAp_2 ap
  exact ⟨gP_l q, gP_l p, gP_r p, gP_r q, ⟨gD_l dr, gD_l dl, gD_r dl, gD_r dr⟩, gAp_1 x1.symm, gAp_2 x1.symm, gD_ap dr, gD_ap dl, (gAp_1 x2.symm).symm, (gAp_2 x2.symm).symm⟩
theorem lW_P (h : lW D am cm KMv o cO d cD A H X v f g) : va_P D vwCl ((wO o cO f ++ wM am cm KMv v) ++ (wP d cD g ++ X)) H ∧ va_D A ((wO o cO f ++ wM am cm KMv v) ++ (wP d cD g ++ X)) := by
  obtain ⟨p1, p2, p3, p4, ⟨d1, d2, d3, d4⟩, a12, a13, a14, a23, a24, a34⟩ := h
  exact ⟨gP_app (gP_app p1 p3) (gP_app p2 p4), gD_app (gD_app d1 d3 a13) (gD_app d2 d4 a24) (gAp_l (gAp_r a12 a14) (gAp_r a23.symm a34))⟩
theorem lW_P' (hP : va_P D vwCl ((wO o cO f ++ wM am cm KMv v) ++ (wP d cD g ++ X)) H) (hD : va_D A ((wO o cO f ++ wM am cm KMv v) ++ (wP d cD g ++ X))) : lW D am cm KMv o cO d cD A H X v f g := by
  have p := gP_l hP; have q := gP_r hP; have dl := gD_l hD; have dr := gD_r hD; have ap := gD_ap hD
  have x1 := gAp_1 ap; have x2 := gAp_2 ap
  exact ⟨gP_l p, gP_l q, gP_r p, gP_r q, ⟨gD_l dl, gD_l dr, gD_r dl, gD_r dr⟩, (gAp_1 x1.symm).symm, gD_ap dl, (gAp_1 x2.symm).symm, gAp_2 x1.symm, gD_ap dr, (gAp_2 x2.symm).symm⟩
theorem lW_M (h : lW D am cm KMv o cO d cD A H X v f g) : va_P D vwCl ((wO o cO f ++ (wP d cD g ++ X)) ++ wM am cm KMv v) H ∧ va_D A ((wO o cO f ++ (wP d cD g ++ X)) ++ wM am cm KMv v) := by
  obtain ⟨p1, p2, p3, p4, ⟨d1, d2, d3, d4⟩, a12, a13, a14, a23, a24, a34⟩ := h
  exact ⟨gP_app (gP_app p1 (gP_app p2 p4)) p3, gD_app (gD_app d1 (gD_app d2 d4 a24) (gAp_r a12 a14)) d3 (gAp_l a13 (gAp_l a23 a34.symm))⟩
theorem lW_M' (hP : va_P D vwCl ((wO o cO f ++ (wP d cD g ++ X)) ++ wM am cm KMv v) H) (hD : va_D A ((wO o cO f ++ (wP d cD g ++ X)) ++ wM am cm KMv v)) : lW D am cm KMv o cO d cD A H X v f g := by
  have p := gP_l hP; have q := gP_r hP; have dl := gD_l hD; have dr := gD_r hD; have ap := (gD_ap hD).symm
  have y := gP_r p; have dy := gD_r dl; have z := gD_ap dl
  exact ⟨gP_l p, gP_l y, q, gP_r y, ⟨gD_l dl, gD_l dy, dr, gD_r dy⟩, gAp_1 z, (gAp_1 ap).symm, gAp_2 z, (gAp_1 (gAp_2 ap)).symm, gD_ap dy, gAp_2 (gAp_2 ap)⟩
end LW
/-- the script, as a table outside -/
def sE (b L : Nat) (xs : Nat → Int32) (A : Nat → Prop) (U : State) (H : Heap) : Prop := va_T .int b L (fun j => .int (xs j)) A U H
theorem sE_ok (b L : Nat) (xs : Nat → Int32) : gE (sE b L xs) := ⟨fun _ _ _ _ hW h => va_T.moved hW.alike h, fun _ _ _ _ hk h => va_T.kept h hk, fun _ _ _ _ hAB h => va_T.narrow h hAB⟩
theorem sE_of {b L : Nat} {xs : Nat → Int32} {A : Nat → Prop} {s : State} {H : Heap} (hX : va_X b L xs s H) (hA : ¬ A b) : sE b L xs A s H := by
  obtain ⟨scr, h1, h2, h3, h4, h5⟩ := hX
  exact ⟨scr, h1, h2, h3, Nat.le_of_eq h4.symm, by rw [h4], h5, hA⟩
section GJ
variable {p : Program} {l : Launch} {e : Env} {R : Room} {s : State} {m : MethodId} {args : Array Value} {below : List Frame} {meth : Method} {c : Code} {H : Heap} {locs : List Loc} {cells slots : Nat} {Q : State → Prop} {cc : ByteArray} {pc : Nat} {ls : Array Slot} {rest st0 : List Value} {A : Nat → Prop} {mc ms : Nat} {D : va_G} {cl : List vw_C} {a : Array Value}
/-- 'x != 0' as a number -/
theorem gj_ne {x v1 v2 : Int32} {off : Int} {tgt nx : Nat} (hx : p.tables.exec = Jvm.exec) (hb : c.code = cc) (hd : decode cc pc = .ok (.ifCond .eq off, 3)) (ht : (pc : Int) + off = (tgt : Int))
    (k1 : W p l e R s m args below meth c H locs cells slots Q (F0 m nx ls (.int v1 :: rest)) → W p l e R s m args below meth c H locs cells slots Q (F0 m tgt ls rest)) (k2 : W p l e R s m args below meth c H locs cells slots Q (F0 m nx ls (.int v2 :: rest)) → W p l e R s m args below meth c H locs cells slots Q (F0 m (pc + 3) ls rest))
    (kk : ∀ v : Int32, v = (if x = 0 then v1 else v2) → W p l e R s m args below meth c H locs cells slots Q (F0 m nx ls (.int v :: rest))) : W p l e R s m args below meth c H locs cells slots Q (F0 m pc ls (.int x :: rest)) := by
  refine lv_if_eq (tgt := tgt) hx hb hd ht (fun c1 => ?_) (fun c1 => ?_)
  · exact k1 (kk v1 (by rw [if_pos c1]))
  · exact k2 (kk v2 (by rw [if_neg c1]))
/-- a call that touches no cell -/
theorem gyc_i {post : Int32 → Unit → Prop} {tys : List (ClassId × FieldType)} {ws : va_W} (hr : va_Run p l e R s m args below meth c H locs cells slots mc ms (F0 m pc ls st0) rest (va_Qi post (gAt D cl tys (fun _ : Unit => []) (va_A [] H.size)) (va_A [] H.size) a) (va_A [] H.size)) (hP : va_P D cl ws H) (hS : va_S A s.heap H locs) (hA : ∀ q, s.heap.size ≤ q → A q)
    (kk : ∀ (r : Int32) (H1 : Heap) (locs1 : List Loc), post r () → va_P D cl ws H1 → va_S A s.heap H1 locs1 → W p l e R s m args below meth c H1 locs1 (cells + mc) (slots + ms) Q (F0 m (pc + 3) ls (.int r :: rest))) : W p l e R s m args below meth c H locs cells slots Q (F0 m pc ls st0) := by
  have hF : ∀ q, va_A [] H.size q → A q := by
    intro q h
    rcases h with ⟨k, e, h⟩ | h
    · simp at h
    · exact hA q (Nat.le_trans hS.1 h)
  refine va_calli hr hS (fun q _ h => hF q h) hF (fun r u t H1 locs ht hvm hw hB hz1 hk1 hS => ?_)
  refine kk r H1 locs hw (hP.kept (fun k x hx => hk1 x.1 (hP k x hx).lt (fun h => ?_))) hS
  rcases h with ⟨k, e, h⟩ | h
  · simp at h
  · exact absurd (hP k x hx).lt (Nat.not_lt.mpr h)
end GJ
