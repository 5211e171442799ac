def pInv (KMv : KM) (k : Nat) (K : KX) (u v : gS) : Prop := KMI KMv
theorem pInv_step (p1 p2 p3 p4 : Int32) : lObl (mK0 p1 p2 p3 p4) (pInv (mK0 p1 p2 p3 p4)) := sorry
theorem pInv_start (p1 p2 p3 p4 : Int32) (w : Nat → Nat) (hw : ∀ a b : Nat, a < 5 → b < 5 → w a = w b → a = b) : pInv (mK0 p1 p2 p3 p4) 0 (xK0 p1 p2 p3 p4, [w 0, w 1, w 2, w 3, w 4], [], (fun _ _ => 0), (fun _ => none)) (xU0 w) mU0 := sorry
