def wpC_0 (KMv : KM) (J : KX → gS → gS → Prop) (K : KX) (u v : gS) (f : Nat → Int64) (g : Nat → UInt64) (a1 a2 a3 a4 : Int32) : Prop :=
  wpL_job K (fun r1 z2 => wpM6_job KMv (fun r3 v4 => J z2.1.1 z2.1.2 v4) v a1 a2 a3 a4) u f a1 a2 a3 a4
def wpC_1 (KMv : KM) (J : KX → gS → gS → Prop) (K : KX) (u v : gS) (f : Nat → Int64) (g : Nat → UInt64) (a1 a2 a3 a4 : Int32) : Prop :=
  wpL_submit K (fun r5 z6 => wpM6_submit KMv (fun r7 v8 => J K z6.1 v8) v a1) u f a1
def wpC_2 (KMv : KM) (J : KX → gS → gS → Prop) (K : KX) (u v : gS) (f : Nat → Int64) (g : Nat → UInt64) (a1 a2 a3 a4 : Int32) : Prop :=
  wpL_then K (fun r9 z10 => wpM6_then KMv (fun r11 v12 => J K z10.1 v12) v a1 a2) u f a1 a2
def wpC_3 (KMv : KM) (J : KX → gS → gS → Prop) (K : KX) (u v : gS) (f : Nat → Int64) (g : Nat → UInt64) (a1 a2 a3 a4 : Int32) : Prop :=
  wpL_step K (fun r13 z14 => wpM6_step KMv (fun r15 v16 => J K z14.1 v16) v a1) u f a1
def wpC_4 (KMv : KM) (J : KX → gS → gS → Prop) (K : KX) (u v : gS) (f : Nat → Int64) (g : Nat → UInt64) (a1 a2 a3 a4 : Int32) : Prop :=
  ∀ b17 : Int32, b17 = (if a2 = 0 then 0 else 1) → (wpL_cancel K (fun r18 z19 => wpM6_cancel KMv (fun r21 v22 => J K z19.1 v22) v a1 b17) u f a1 b17)
def wpC_5 (KMv : KM) (J : KX → gS → gS → Prop) (K : KX) (u v : gS) (f : Nat → Int64) (g : Nat → UInt64) (a1 a2 a3 a4 : Int32) : Prop :=
  wpL_get K (fun r23 z24 => wpM6_get KMv (fun r25 v26 => J K z24.1 v26) v a1) u f a1
def wpC_6 (KMv : KM) (J : KX → gS → gS → Prop) (K : KX) (u v : gS) (f : Nat → Int64) (g : Nat → UInt64) (a1 a2 a3 a4 : Int32) : Prop :=
  vf_n64 (FP.dmul (FP.i2d a2) 4593671619917905920) ∧ (∀ t27 : UInt64, t27 = FP.dmul (FP.i2d a2) 4593671619917905920 → (vf_n64 (FP.dmul (FP.i2d a3) 4593671619917905920) ∧ (∀ t28 : UInt64, t28 = FP.dmul (FP.i2d a3) 4593671619917905920 → (wpL_clock K (fun r29 z30 => wpM6_clock KMv (fun r31 v32 => J K z30.1 v32) v a1 t27 t28) u f a1 t27 t28))))
def wpC_7 (KMv : KM) (J : KX → gS → gS → Prop) (K : KX) (u v : gS) (f : Nat → Int64) (g : Nat → UInt64) (a1 a2 a3 a4 : Int32) : Prop :=
  vf_n64 (FP.dmul (FP.i2d a1) 4593671619917905920) ∧ (∀ t33 : UInt64, t33 = FP.dmul (FP.i2d a1) 4593671619917905920 → (wpL_tick K (fun r34 z35 => wpM6_tick KMv (fun r36 v37 => J K z35.1 v37) v t33) u f t33))
def wpC_8 (KMv : KM) (J : KX → gS → gS → Prop) (K : KX) (u v : gS) (f : Nat → Int64) (g : Nat → UInt64) (a1 a2 a3 a4 : Int32) : Prop :=
  ∀ b38 : Int32, b38 = (if a1 = 0 then 0 else 1) → (wpL_shut K (fun r39 z40 => wpM6_shut KMv (fun r42 v43 => J K z40.1 v43) v b38) u f b38)
def wpC_9 (KMv : KM) (J : KX → gS → gS → Prop) (K : KX) (u v : gS) (f : Nat → Int64) (g : Nat → UInt64) (a1 a2 a3 a4 : Int32) : Prop :=
  wpL_about K (fun r44 z45 => wpM6_about KMv (fun r46 v47 => J K z45.1 v47) v a1 a2) u f a1 a2
def wpC_10 (KMv : KM) (J : KX → gS → gS → Prop) (K : KX) (u v : gS) (f : Nat → Int64) (g : Nat → UInt64) (a1 a2 a3 a4 : Int32) : Prop :=
  wpL_worker K (fun r48 z49 => wpM6_worker KMv (fun r50 v51 => J K z49.1 v51) v a1) u f a1
def wpC_11 (KMv : KM) (J : KX → gS → gS → Prop) (K : KX) (u v : gS) (f : Nat → Int64) (g : Nat → UInt64) (a1 a2 a3 a4 : Int32) : Prop :=
  wpL_count K (fun r52 z53 => wpM6_count KMv (fun r54 v55 => J K z53.1 v55) v a1) u f a1
def wpC_12 (KMv : KM) (J : KX → gS → gS → Prop) (K : KX) (u v : gS) (f : Nat → Int64) (g : Nat → UInt64) (a1 a2 a3 a4 : Int32) : Prop :=
  wpL_delay K (fun r56 z57 => wpM6_delay KMv (fun r58 v59 => J K z57.1 v59) v) u g
def wpC_13 (KMv : KM) (J : KX → gS → gS → Prop) (K : KX) (u v : gS) (f : Nat → Int64) (g : Nat → UInt64) (a1 a2 a3 a4 : Int32) : Prop :=
  wpL_due K (fun r60 z61 => wpM6_due KMv (fun r62 v63 => wpM6_thrown KMv (fun r64 v65 => ((r64 = r60 → (((¬ r60 = 0 → (J K z61.1 v65)) ∧ (r60 = 0 → ((((Op.cmpValue (FP.dcmp (z61.2 (0 : Int32).toNatClampNeg) r62) .l) = 0 → (J K z61.1 v65)) ∧ (¬ (Op.cmpValue (FP.dcmp (z61.2 (0 : Int32).toNatClampNeg) r62) .l) = 0 → ((((Op.cmpValue (FP.dcmp (z61.2 (0 : Int32).toNatClampNeg) (z61.2 (0 : Int32).toNatClampNeg)) .l) = 0 → (False)) ∧ (¬ (Op.cmpValue (FP.dcmp (z61.2 (0 : Int32).toNatClampNeg) (z61.2 (0 : Int32).toNatClampNeg)) .l) = 0 → (((¬ (Op.cmpValue (FP.dcmp r62 r62) .l) = 0 → (J K z61.1 v65)) ∧ ((Op.cmpValue (FP.dcmp r62 r62) .l) = 0 → (False)))))))))))))) ∧ (¬ r64 = r60 → (False)))) v63) v) u g
/-- what is owed of the two, call by call -/
def lObl (KMv : KM) (Inv : Nat → KX → gS → gS → Prop) : Prop := ∀ (k : Nat) (K : KX) (u v : gS) (f : Nat → Int64) (g : Nat → UInt64) (a1 a2 a3 a4 : Int32), k < 513 → Inv k K u v → wpC_0 KMv (Inv (k + 1)) K u v f g a1 a2 a3 a4 ∧ wpC_1 KMv (Inv (k + 1)) K u v f g a1 a2 a3 a4 ∧ wpC_2 KMv (Inv (k + 1)) K u v f g a1 a2 a3 a4 ∧ wpC_3 KMv (Inv (k + 1)) K u v f g a1 a2 a3 a4 ∧ wpC_4 KMv (Inv (k + 1)) K u v f g a1 a2 a3 a4 ∧ wpC_5 KMv (Inv (k + 1)) K u v f g a1 a2 a3 a4 ∧ wpC_6 KMv (Inv (k + 1)) K u v f g a1 a2 a3 a4 ∧ wpC_7 KMv (Inv (k + 1)) K u v f g a1 a2 a3 a4 ∧ wpC_8 KMv (Inv (k + 1)) K u v f g a1 a2 a3 a4 ∧ wpC_9 KMv (Inv (k + 1)) K u v f g a1 a2 a3 a4 ∧ wpC_10 KMv (Inv (k + 1)) K u v f g a1 a2 a3 a4 ∧ wpC_11 KMv (Inv (k + 1)) K u v f g a1 a2 a3 a4 ∧ wpC_12 KMv (Inv (k + 1)) K u v f g a1 a2 a3 a4 ∧ wpC_13 KMv (Inv (k + 1)) K u v f g a1 a2 a3 a4 ∧ Inv (k + 1) K u v
