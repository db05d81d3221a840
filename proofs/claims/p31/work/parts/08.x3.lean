def lq1 {A0 : Type} (F : (A0 → Prop) → A0 → Prop) : Nat → A0 → Prop
  | 0 => fun _ => False
  | n + 1 => F (lq1 F n)
def lq2 {A0 A1 : Type} (F : (A0 → A1 → Prop) → A0 → A1 → Prop) : Nat → A0 → A1 → Prop
  | 0 => fun _ _ => False
  | n + 1 => F (lq2 F n)
def lq3 {A0 A1 A2 : Type} (F : (A0 → A1 → A2 → Prop) → A0 → A1 → A2 → Prop) : Nat → A0 → A1 → A2 → Prop
  | 0 => fun _ _ _ => False
  | n + 1 => F (lq3 F n)
def lq4 {A0 A1 A2 A3 : Type} (F : (A0 → A1 → A2 → A3 → Prop) → A0 → A1 → A2 → A3 → Prop) : Nat → A0 → A1 → A2 → A3 → Prop
  | 0 => fun _ _ _ _ => False
  | n + 1 => F (lq4 F n)
def lq5 {A0 A1 A2 A3 A4 : Type} (F : (A0 → A1 → A2 → A3 → A4 → Prop) → A0 → A1 → A2 → A3 → A4 → Prop) : Nat → A0 → A1 → A2 → A3 → A4 → Prop
  | 0 => fun _ _ _ _ _ => False
  | n + 1 => F (lq5 F n)
def lq6 {A0 A1 A2 A3 A4 A5 : Type} (F : (A0 → A1 → A2 → A3 → A4 → A5 → Prop) → A0 → A1 → A2 → A3 → A4 → A5 → Prop) : Nat → A0 → A1 → A2 → A3 → A4 → A5 → Prop
  | 0 => fun _ _ _ _ _ _ => False
  | n + 1 => F (lq6 F n)
def lq7 {A0 A1 A2 A3 A4 A5 A6 : Type} (F : (A0 → A1 → A2 → A3 → A4 → A5 → A6 → Prop) → A0 → A1 → A2 → A3 → A4 → A5 → A6 → Prop) : Nat → A0 → A1 → A2 → A3 → A4 → A5 → A6 → Prop
  | 0 => fun _ _ _ _ _ _ _ => False
  | n + 1 => F (lq7 F n)
def lq8 {A0 A1 A2 A3 A4 A5 A6 A7 : Type} (F : (A0 → A1 → A2 → A3 → A4 → A5 → A6 → A7 → Prop) → A0 → A1 → A2 → A3 → A4 → A5 → A6 → A7 → Prop) : Nat → A0 → A1 → A2 → A3 → A4 → A5 → A6 → A7 → Prop
  | 0 => fun _ _ _ _ _ _ _ _ => False
  | n + 1 => F (lq8 F n)
def lq9 {A0 A1 A2 A3 A4 A5 A6 A7 A8 : Type} (F : (A0 → A1 → A2 → A3 → A4 → A5 → A6 → A7 → A8 → Prop) → A0 → A1 → A2 → A3 → A4 → A5 → A6 → A7 → A8 → Prop) : Nat → A0 → A1 → A2 → A3 → A4 → A5 → A6 → A7 → A8 → Prop
  | 0 => fun _ _ _ _ _ _ _ _ _ => False
  | n + 1 => F (lq9 F n)
def lq10 {A0 A1 A2 A3 A4 A5 A6 A7 A8 A9 : Type} (F : (A0 → A1 → A2 → A3 → A4 → A5 → A6 → A7 → A8 → A9 → Prop) → A0 → A1 → A2 → A3 → A4 → A5 → A6 → A7 → A8 → A9 → Prop) : Nat → A0 → A1 → A2 → A3 → A4 → A5 → A6 → A7 → A8 → A9 → Prop
  | 0 => fun _ _ _ _ _ _ _ _ _ _ => False
  | n + 1 => F (lq10 F n)
def lq11 {A0 A1 A2 A3 A4 A5 A6 A7 A8 A9 A10 : Type} (F : (A0 → A1 → A2 → A3 → A4 → A5 → A6 → A7 → A8 → A9 → A10 → Prop) → A0 → A1 → A2 → A3 → A4 → A5 → A6 → A7 → A8 → A9 → A10 → Prop) : Nat → A0 → A1 → A2 → A3 → A4 → A5 → A6 → A7 → A8 → A9 → A10 → Prop
  | 0 => fun _ _ _ _ _ _ _ _ _ _ _ => False
  | n + 1 => F (lq11 F n)
def lq12 {A0 A1 A2 A3 A4 A5 A6 A7 A8 A9 A10 A11 : Type} (F : (A0 → A1 → A2 → A3 → A4 → A5 → A6 → A7 → A8 → A9 → A10 → A11 → Prop) → A0 → A1 → A2 → A3 → A4 → A5 → A6 → A7 → A8 → A9 → A10 → A11 → Prop) : Nat → A0 → A1 → A2 → A3 → A4 → A5 → A6 → A7 → A8 → A9 → A10 → A11 → Prop
  | 0 => fun _ _ _ _ _ _ _ _ _ _ _ _ => False
  | n + 1 => F (lq12 F n)
def lq13 {A0 A1 A2 A3 A4 A5 A6 A7 A8 A9 A10 A11 A12 : Type} (F : (A0 → A1 → A2 → A3 → A4 → A5 → A6 → A7 → A8 → A9 → A10 → A11 → A12 → Prop) → A0 → A1 → A2 → A3 → A4 → A5 → A6 → A7 → A8 → A9 → A10 → A11 → A12 → Prop) : Nat → A0 → A1 → A2 → A3 → A4 → A5 → A6 → A7 → A8 → A9 → A10 → A11 → A12 → Prop
  | 0 => fun _ _ _ _ _ _ _ _ _ _ _ _ _ => False
  | n + 1 => F (lq13 F n)
def lq14 {A0 A1 A2 A3 A4 A5 A6 A7 A8 A9 A10 A11 A12 A13 : Type} (F : (A0 → A1 → A2 → A3 → A4 → A5 → A6 → A7 → A8 → A9 → A10 → A11 → A12 → A13 → Prop) → A0 → A1 → A2 → A3 → A4 → A5 → A6 → A7 → A8 → A9 → A10 → A11 → A12 → A13 → Prop) : Nat → A0 → A1 → A2 → A3 → A4 → A5 → A6 → A7 → A8 → A9 → A10 → A11 → A12 → A13 → Prop
  | 0 => fun _ _ _ _ _ _ _ _ _ _ _ _ _ _ => False
  | n + 1 => F (lq14 F n)
def lq15 {A0 A1 A2 A3 A4 A5 A6 A7 A8 A9 A10 A11 A12 A13 A14 : Type} (F : (A0 → A1 → A2 → A3 → A4 → A5 → A6 → A7 → A8 → A9 → A10 → A11 → A12 → A13 → A14 → Prop) → A0 → A1 → A2 → A3 → A4 → A5 → A6 → A7 → A8 → A9 → A10 → A11 → A12 → A13 → A14 → Prop) : Nat → A0 → A1 → A2 → A3 → A4 → A5 → A6 → A7 → A8 → A9 → A10 → A11 → A12 → A13 → A14 → Prop
  | 0 => fun _ _ _ _ _ _ _ _ _ _ _ _ _ _ _ => False
  | n + 1 => F (lq15 F n)
def lq16 {A0 A1 A2 A3 A4 A5 A6 A7 A8 A9 A10 A11 A12 A13 A14 A15 : Type} (F : (A0 → A1 → A2 → A3 → A4 → A5 → A6 → A7 → A8 → A9 → A10 → A11 → A12 → A13 → A14 → A15 → Prop) → A0 → A1 → A2 → A3 → A4 → A5 → A6 → A7 → A8 → A9 → A10 → A11 → A12 → A13 → A14 → A15 → Prop) : Nat → A0 → A1 → A2 → A3 → A4 → A5 → A6 → A7 → A8 → A9 → A10 → A11 → A12 → A13 → A14 → A15 → Prop
  | 0 => fun _ _ _ _ _ _ _ _ _ _ _ _ _ _ _ _ => False
  | n + 1 => F (lq16 F n)
def lq17 {A0 A1 A2 A3 A4 A5 A6 A7 A8 A9 A10 A11 A12 A13 A14 A15 A16 : Type} (F : (A0 → A1 → A2 → A3 → A4 → A5 → A6 → A7 → A8 → A9 → A10 → A11 → A12 → A13 → A14 → A15 → A16 → Prop) → A0 → A1 → A2 → A3 → A4 → A5 → A6 → A7 → A8 → A9 → A10 → A11 → A12 → A13 → A14 → A15 → A16 → Prop) : Nat → A0 → A1 → A2 → A3 → A4 → A5 → A6 → A7 → A8 → A9 → A10 → A11 → A12 → A13 → A14 → A15 → A16 → Prop
  | 0 => fun _ _ _ _ _ _ _ _ _ _ _ _ _ _ _ _ _ => False
  | n + 1 => F (lq17 F n)
theorem at2_0 : (vx_atS RX4 109 "java/lang/IllegalArgumentException" ["java/lang/RuntimeException", "java/lang/Exception"]).filter (fun w => !goodWord w) = evT "java/lang/IllegalArgumentException" := by decide +kernel
theorem at2_1 : (vx_atS RX4 60 "java/lang/IllegalStateException" ["java/lang/RuntimeException", "java/lang/Exception"]).filter (fun w => !goodWord w) = evT "java/lang/IllegalStateException" := by decide +kernel
theorem at2_2 : (vx_atS RX4 265 "java/lang/IndexOutOfBoundsException" ["java/lang/RuntimeException", "java/lang/Exception"]).filter (fun w => !goodWord w) = evT "java/lang/IndexOutOfBoundsException" := by decide +kernel
theorem at3_0_105 : ∀ w ∈ Cond.classLink RX4 105 "java/lang/IllegalArgumentException" :: Cond.initialized "java/lang/IllegalArgumentException" :: vx_atS RX4 109 "java/lang/IllegalArgumentException" ["java/lang/RuntimeException", "java/lang/Exception"], vx_ot w = true := by decide +kernel
theorem at3_1_56 : ∀ w ∈ Cond.classLink RX4 56 "java/lang/IllegalStateException" :: Cond.initialized "java/lang/IllegalStateException" :: vx_atS RX4 60 "java/lang/IllegalStateException" ["java/lang/RuntimeException", "java/lang/Exception"], vx_ot w = true := by decide +kernel
theorem at3_2_261 : ∀ w ∈ Cond.classLink RX4 261 "java/lang/IndexOutOfBoundsException" :: Cond.initialized "java/lang/IndexOutOfBoundsException" :: vx_atS RX4 265 "java/lang/IndexOutOfBoundsException" ["java/lang/RuntimeException", "java/lang/Exception"], vx_ot w = true := by decide +kernel
abbrev W1_X3_becomeCopyOf (t : Nat → ClassId) (hT : Nat) (kTA : Nat) (dTA : Nat) (mTA : Nat) (hO : Nat) (kOA : Nat) (dOA : Nat) (mOA : Nat) (nO : Int) (kO : Nat → Int) (dO : Nat → Int) (mO : Nat → Int) (u : (Int) × (Nat → Int) × (Nat → Int) × (Nat → Int)) : va_W := [oB hT 3 [.ref kTA, .ref dTA, .ref mTA, .int (iI u.1)], aI t kTA 120 u.2.1, aI t dTA 120 u.2.2.1, aZ t mTA 120 u.2.2.2, oB hO 3 [.ref kOA, .ref dOA, .ref mOA, .int (iI nO)], aI t kOA 120 kO, aI t dOA 120 dO, aZ t mOA 120 mO]
abbrev po_X3_becomeCopyOf (Q : (Int) → (Nat → Int) → (Nat → Int) → (Nat → Int) → Prop) (u : (Int) × (Nat → Int) × (Nat → Int) × (Nat → Int)) : Prop := Q u.1 u.2.1 u.2.2.1 u.2.2.2
abbrev rm_X3_becomeCopyOf : Room := { frames := 1, cells := 0, slots := 0, locals := 60 }
def wp_X3_becomeCopyOf (nT : Int) (kT : Nat → Int) (dT : Nat → Int) (mT : Nat → Int) (nO : Int) (kO : Nat → Int) (dO : Nat → Int) (mO : Nat → Int) (Q : (Int) → (Nat → Int) → (Nat → Int) → (Nat → Int) → Prop) : Prop := (0 ≤ (0 : Int) ∧ 0 ≤ (0 : Int) ∧ 0 ≤ nO) ∧ ((0 : Int) + nO ≤ 120 ∧ (0 : Int) + nO ≤ 120) ∧ (0 ≤ (0 : Int) ∧ 0 ≤ (0 : Int) ∧ 0 ≤ nO) ∧ ((0 : Int) + nO ≤ 120 ∧ (0 : Int) + nO ≤ 120) ∧ (0 ≤ (0 : Int) ∧ 0 ≤ (0 : Int) ∧ 0 ≤ nO) ∧ ((0 : Int) + nO ≤ 120 ∧ (0 : Int) + nO ≤ 120) ∧ (∀ i : Nat, i < nO.toNat → mO (0 + i) = 0 ∨ mO (0 + i) = 1) ∧ Q nO (cpI kO kT 0 0 (nO.toNat)) (cpI dO dT 0 0 (nO.toNat)) (cpI mO mT 0 0 (nO.toNat))
theorem m_X3_becomeCopyOf_22 : Cond.fieldLink RX3 22 "BackgroundRebuild$Tree" "nodes" "I" ∈ wsX3_becomeCopyOf := by decide +kernel
theorem m_X3_becomeCopyOf_9 : Cond.fieldLink RX3 9 "BackgroundRebuild$Tree" "keys" "[I" ∈ wsX3_becomeCopyOf := by decide +kernel
theorem m_X3_becomeCopyOf_ac26 : Cond.methodLink RX3 26 arraycopyName ∈ wsX3_becomeCopyOf := by decide +kernel
theorem m_X3_becomeCopyOf_acn : Cond.native arraycopyName ∈ wsX3_becomeCopyOf := by decide +kernel
theorem m_X3_becomeCopyOf_acs : Cond.static arraycopyName ∈ wsX3_becomeCopyOf := by decide +kernel
theorem m_X3_becomeCopyOf_aci : Cond.initialized "java/lang/System" ∈ wsX3_becomeCopyOf := by decide +kernel
theorem m_X3_becomeCopyOf_15 : Cond.fieldLink RX3 15 "BackgroundRebuild$Tree" "depths" "[I" ∈ wsX3_becomeCopyOf := by decide +kernel
theorem m_X3_becomeCopyOf_18 : Cond.fieldLink RX3 18 "BackgroundRebuild$Tree" "marks" "[Z" ∈ wsX3_becomeCopyOf := by decide +kernel
theorem i_X3_becomeCopyOf_3 : ∀ w ∈ u_ws RX3 TX3 4, w ∈ wsX3_becomeCopyOf := by decide +kernel
theorem ok_X3_becomeCopyOf : yX3_becomeCopyOf.cls = RX3 ∧ yX3_becomeCopyOf.cls ≠ "java/lang/invoke/MethodHandle" ∧ yX3_becomeCopyOf.cls ≠ "java/lang/invoke/VarHandle" ∧ (parseMethodDescriptor yX3_becomeCopyOf.desc).map (fun d => d.parameters.length) = some 1 := by decide +kernel
set_option maxHeartbeats 4000000 in
set_option maxRecDepth 100000 in
theorem met_X3_becomeCopyOf (l : Launch) (D : va_G) (t : Nat → ClassId) (hT : Nat) (kTA : Nat) (dTA : Nat) (mTA : Nat) (hO : Nat) (kOA : Nat) (dOA : Nat) (mOA : Nat) (nT : Int) (kT : Nat → Int) (dT : Nat → Int) (mT : Nat → Int) (nO : Int) (kO : Nat → Int) (dO : Nat → Int) (mO : Nat → Int) (Q : (Int) → (Nat → Int) → (Nat → Int) → (Nat → Int) → Prop) (hv : wp_X3_becomeCopyOf nT kT dT mT nO kO dO mO Q) : MV l D t yX3_becomeCopyOf wsX3_becomeCopyOf rm_X3_becomeCopyOf [.ref hT, .ref hO] [oB hT 3 [.ref kTA, .ref dTA, .ref mTA, .int (iI nT)], aI t kTA 120 kT, aI t dTA 120 dT, aZ t mTA 120 mT, oB hO 3 [.ref kOA, .ref dOA, .ref mOA, .int (iI nO)], aI t kOA 120 kO, aI t dOA 120 dO, aZ t mOA 120 mO] (W1_X3_becomeCopyOf t hT kTA dTA mTA hO kOA dOA mOA nO kO dO mO) (po_X3_becomeCopyOf Q) 0 0 := by
  refine M_ofv (cc := cX3_becomeCopyOf) (nL := 2) (by decide) rfl (Nat.le_of_ble_eq_true rfl) ?_
  intro p e s m args below meth c A hc hr
  refine V_lv [0, 1] [(0, .ref hT), (1, .ref hO)] rfl ?_
  unfold wp_X3_becomeCopyOf at hv
  refine V_aload_n hc dX3_becomeCopyOf_0 0 rfl ?_
  refine V_aload_n hc dX3_becomeCopyOf_1 1 rfl ?_
  refine V_get (C := RX3) (T := TX3) (N := 4) hc i_X3_becomeCopyOf_3 4 rfl rfl 3 (by decide) m_X3_becomeCopyOf_22 rfl dX3_becomeCopyOf_2 ?_
  refine V_puti (C := RX3) (T := TX3) (N := 4) hc i_X3_becomeCopyOf_3 0 rfl rfl 3 (by decide) m_X3_becomeCopyOf_22 tyX3 tyX3_ok nmX3 rfl (by decide +kernel) (Nat.le_of_ble_eq_true rfl) dX3_becomeCopyOf_5 [oB hT 3 [.ref kTA, .ref dTA, .ref mTA, .int (iI nO)], aI t kTA 120 kT, aI t dTA 120 dT, aZ t mTA 120 mT, oB hO 3 [.ref kOA, .ref dOA, .ref mOA, .int (iI nO)], aI t kOA 120 kO, aI t dOA 120 dO, aZ t mOA 120 mO] rfl ?_
  refine V_aload_n hc dX3_becomeCopyOf_8 1 rfl ?_
  refine V_get (C := RX3) (T := TX3) (N := 4) hc i_X3_becomeCopyOf_3 4 rfl rfl 0 (by decide) m_X3_becomeCopyOf_9 rfl dX3_becomeCopyOf_9 ?_
  refine V_iconst hc dX3_becomeCopyOf_12 ?_
  refine V_aload_n hc dX3_becomeCopyOf_13 0 rfl ?_
  refine V_get (C := RX3) (T := TX3) (N := 4) hc i_X3_becomeCopyOf_3 0 rfl rfl 0 (by decide) m_X3_becomeCopyOf_9 rfl dX3_becomeCopyOf_14 ?_
  refine V_iconst hc dX3_becomeCopyOf_17 ?_
  refine V_aload_n hc dX3_becomeCopyOf_18 0 rfl ?_
  refine V_get (C := RX3) (T := TX3) (N := 4) hc i_X3_becomeCopyOf_3 0 rfl rfl 3 (by decide) m_X3_becomeCopyOf_22 rfl dX3_becomeCopyOf_19 ?_
  refine V_copyi hc m_X3_becomeCopyOf_ac26 m_X3_becomeCopyOf_acn m_X3_becomeCopyOf_acs m_X3_becomeCopyOf_aci 5 1 rfl rfl (by decide) (by decide) hv (by decide) (Nat.le_of_ble_eq_true rfl) dX3_becomeCopyOf_22 [oB hT 3 [.ref kTA, .ref dTA, .ref mTA, .int (iI nO)], aI t kTA 120 (cpI kO kT 0 0 (nO.toNat)), aI t dTA 120 dT, aZ t mTA 120 mT, oB hO 3 [.ref kOA, .ref dOA, .ref mOA, .int (iI nO)], aI t kOA 120 kO, aI t dOA 120 dO, aZ t mOA 120 mO] rfl (fun hv => ?_)
  refine V_aload_n hc dX3_becomeCopyOf_25 1 rfl ?_
  refine V_get (C := RX3) (T := TX3) (N := 4) hc i_X3_becomeCopyOf_3 4 rfl rfl 1 (by decide) m_X3_becomeCopyOf_15 rfl dX3_becomeCopyOf_26 ?_
  refine V_iconst hc dX3_becomeCopyOf_29 ?_
  refine V_aload_n hc dX3_becomeCopyOf_30 0 rfl ?_
  refine V_get (C := RX3) (T := TX3) (N := 4) hc i_X3_becomeCopyOf_3 0 rfl rfl 1 (by decide) m_X3_becomeCopyOf_15 rfl dX3_becomeCopyOf_31 ?_
  refine V_iconst hc dX3_becomeCopyOf_34 ?_
  refine V_aload_n hc dX3_becomeCopyOf_35 0 rfl ?_
  refine V_get (C := RX3) (T := TX3) (N := 4) hc i_X3_becomeCopyOf_3 0 rfl rfl 3 (by decide) m_X3_becomeCopyOf_22 rfl dX3_becomeCopyOf_36 ?_
  refine V_copyi hc m_X3_becomeCopyOf_ac26 m_X3_becomeCopyOf_acn m_X3_becomeCopyOf_acs m_X3_becomeCopyOf_aci 6 2 rfl rfl (by decide) (by decide) hv (by decide) (Nat.le_of_ble_eq_true rfl) dX3_becomeCopyOf_39 [oB hT 3 [.ref kTA, .ref dTA, .ref mTA, .int (iI nO)], aI t kTA 120 (cpI kO kT 0 0 (nO.toNat)), aI t dTA 120 (cpI dO dT 0 0 (nO.toNat)), aZ t mTA 120 mT, oB hO 3 [.ref kOA, .ref dOA, .ref mOA, .int (iI nO)], aI t kOA 120 kO, aI t dOA 120 dO, aZ t mOA 120 mO] rfl (fun hv => ?_)
  refine V_aload_n hc dX3_becomeCopyOf_42 1 rfl ?_
  refine V_get (C := RX3) (T := TX3) (N := 4) hc i_X3_becomeCopyOf_3 4 rfl rfl 2 (by decide) m_X3_becomeCopyOf_18 rfl dX3_becomeCopyOf_43 ?_
  refine V_iconst hc dX3_becomeCopyOf_46 ?_
  refine V_aload_n hc dX3_becomeCopyOf_47 0 rfl ?_
  refine V_get (C := RX3) (T := TX3) (N := 4) hc i_X3_becomeCopyOf_3 0 rfl rfl 2 (by decide) m_X3_becomeCopyOf_18 rfl dX3_becomeCopyOf_48 ?_
  refine V_iconst hc dX3_becomeCopyOf_51 ?_
  refine V_aload_n hc dX3_becomeCopyOf_52 0 rfl ?_
  refine V_get (C := RX3) (T := TX3) (N := 4) hc i_X3_becomeCopyOf_3 0 rfl rfl 3 (by decide) m_X3_becomeCopyOf_22 rfl dX3_becomeCopyOf_53 ?_
  refine V_copyz hc m_X3_becomeCopyOf_ac26 m_X3_becomeCopyOf_acn m_X3_becomeCopyOf_acs m_X3_becomeCopyOf_aci 7 3 rfl rfl (by decide) (by decide) hv (by decide) (Nat.le_of_ble_eq_true rfl) dX3_becomeCopyOf_56 [oB hT 3 [.ref kTA, .ref dTA, .ref mTA, .int (iI nO)], aI t kTA 120 (cpI kO kT 0 0 (nO.toNat)), aI t dTA 120 (cpI dO dT 0 0 (nO.toNat)), aZ t mTA 120 (cpI mO mT 0 0 (nO.toNat)), oB hO 3 [.ref kOA, .ref dOA, .ref mOA, .int (iI nO)], aI t kOA 120 kO, aI t dOA 120 dO, aZ t mOA 120 mO] rfl (fun hv => ?_)
  exact V_vret hc hr (nO, cpI kO kT 0 0 (nO.toNat), cpI dO dT 0 0 (nO.toNat), cpI mO mT 0 0 (nO.toNat)) hv rfl dX3_becomeCopyOf_59
abbrev W1_X3_lastVisited (t : Nat → ClassId) (hT : Nat) (kTA : Nat) (dTA : Nat) (mTA : Nat) (nT : Int) (kT : Nat → Int) (dT : Nat → Int) (mT : Nat → Int) (u : Unit) : va_W := [oB hT 3 [.ref kTA, .ref dTA, .ref mTA, .int (iI nT)], aI t kTA 120 kT, aI t dTA 120 dT, aZ t mTA 120 mT]
abbrev po_X3_lastVisited (Q : Int → Prop) (r : Int) (u : Unit) : Prop := Q r
abbrev rm_X3_lastVisited : Room := { frames := 0, cells := 0, slots := 0, locals := 0 }
def wp_X3_lastVisited_12 (nT : Int) (kT : Nat → Int) (x1 : Int) (Q : Int → Prop) (K_12 : Int → Int → Int → Int → Prop) (x2 : Int) (x3 : Int) (x4 : Int) (x5 : Int) : Prop := inR x5 ∧ inR nT ∧ (x5 ≥ nT → Q x4) ∧ (¬ (x5 ≥ nT) → (0 ≤ x5 ∧ x5 < 120) ∧ inR (kT x5.toNat) ∧ inR x2 ∧ (kT x5.toNat ≤ x2 → K_12 x2 x3 x4 (x5 + 1)) ∧ (¬ (kT x5.toNat ≤ x2) → inR (kT x5.toNat) ∧ inR x3 ∧ (kT x5.toNat ≥ x3 → K_12 x2 x3 x4 (x5 + 1)) ∧ (¬ (kT x5.toNat ≥ x3) → inR (kT x5.toNat) ∧ inR x1 ∧ (kT x5.toNat ≠ x1 → inR x1 ∧ inR (kT x5.toNat) ∧ (x1 ≥ kT x5.toNat → K_12 (kT x5.toNat) x3 x5 (x5 + 1)) ∧ (¬ (x1 ≥ kT x5.toNat) → K_12 x2 (kT x5.toNat) x5 (x5 + 1))) ∧ (¬ (kT x5.toNat ≠ x1) → Q x5))))
def wp_X3_lastVisited (nT : Int) (kT : Nat → Int) (x1 : Int) (Q : Int → Prop) : Prop := (∃ n, lq4 (wp_X3_lastVisited_12 nT kT x1 Q) n (-1) 500 (-1) 0)
theorem m_X3_lastVisited_22 : Cond.fieldLink RX3 22 "BackgroundRebuild$Tree" "nodes" "I" ∈ wsX3_lastVisited := by decide +kernel
theorem m_X3_lastVisited_9 : Cond.fieldLink RX3 9 "BackgroundRebuild$Tree" "keys" "[I" ∈ wsX3_lastVisited := by decide +kernel
theorem i_X3_lastVisited_3 : ∀ w ∈ u_ws RX3 TX3 4, w ∈ wsX3_lastVisited := by decide +kernel
theorem ok_X3_lastVisited : yX3_lastVisited.cls = RX3 ∧ yX3_lastVisited.cls ≠ "java/lang/invoke/MethodHandle" ∧ yX3_lastVisited.cls ≠ "java/lang/invoke/VarHandle" ∧ (parseMethodDescriptor yX3_lastVisited.desc).map (fun d => d.parameters.length) = some 1 := by decide +kernel
set_option maxHeartbeats 4000000 in
set_option maxRecDepth 100000 in
theorem met_X3_lastVisited (l : Launch) (D : va_G) (t : Nat → ClassId) (hT : Nat) (kTA : Nat) (dTA : Nat) (mTA : Nat) (nT : Int) (kT : Nat → Int) (dT : Nat → Int) (mT : Nat → Int) (x1 : Int) (Q : Int → Prop) (hv : wp_X3_lastVisited nT kT x1 Q) : MI l D t yX3_lastVisited wsX3_lastVisited rm_X3_lastVisited [.ref hT, .int (iI x1)] [oB hT 3 [.ref kTA, .ref dTA, .ref mTA, .int (iI nT)], aI t kTA 120 kT, aI t dTA 120 dT, aZ t mTA 120 mT] (W1_X3_lastVisited t hT kTA dTA mTA nT kT dT mT) (po_X3_lastVisited Q) 0 0 := by
  refine M_ofi (cc := cX3_lastVisited) (nL := 7) (by decide) rfl (Nat.le_of_ble_eq_true rfl) ?_
  intro p e s m args below meth c A hc hr
  have L_12 : ∀ (nT : Int) (kT : Nat → Int) (x1 : Int) (n9 : Nat) (x2 : Int) (x3 : Int) (x4 : Int) (x5 : Int), lq4 (wp_X3_lastVisited_12 nT kT x1 Q) n9 x2 x3 x4 x5 → V p l e rm_X3_lastVisited s m args below meth c D A 7 0 0 (MQ below (QI D A (W1_X3_lastVisited t hT kTA dTA mTA nT kT dT mT) (po_X3_lastVisited Q)) args s 0 0 A) 12 [(0, .ref hT), (1, .int (iI x1)), (2, .int (iI x2)), (3, .int (iI x3)), (4, .int (iI x4)), (5, .int (iI x5))] [] [oB hT 3 [.ref kTA, .ref dTA, .ref mTA, .int (iI nT)], aI t kTA 120 kT, aI t dTA 120 dT, aZ t mTA 120 mT] := by
    intro nT kT x1 n9
    induction n9 with
    | zero =>
      intro x2 x3 x4 x5 hv
      exact hv.elim
    | succ n9 ih =>
      intro x2 x3 x4 x5 hv
      have hv : wp_X3_lastVisited_12 nT kT x1 Q (lq4 (wp_X3_lastVisited_12 nT kT x1 Q) n9) x2 x3 x4 x5 := hv
      generalize lq4 (wp_X3_lastVisited_12 nT kT x1 Q) n9 = K_12 at hv ih
      have hK_12 := ih
      unfold wp_X3_lastVisited_12 at hv
      refine V_iload hc dX3_lastVisited_12 5 rfl ?_
      refine V_aload_n hc dX3_lastVisited_14 0 rfl ?_
      refine V_get (C := RX3) (T := TX3) (N := 4) hc i_X3_lastVisited_3 0 rfl rfl 3 (by decide) m_X3_lastVisited_22 rfl dX3_lastVisited_15 ?_
      refine V_icmp_ge (tgt := 76) hc dX3_lastVisited_18 (by decide) hv (fun hv => ?_) (fun hv => ?_)
      · refine V_iload hc dX3_lastVisited_76 4 rfl ?_
        exact V_iret hc hr () hv rfl dX3_lastVisited_78
      · refine V_aload_n hc dX3_lastVisited_21 0 rfl ?_
        refine V_get (C := RX3) (T := TX3) (N := 4) hc i_X3_lastVisited_3 0 rfl rfl 0 (by decide) m_X3_lastVisited_9 rfl dX3_lastVisited_22 ?_
        refine V_iload hc dX3_lastVisited_25 5 rfl ?_
        refine V_iald hc 1 rfl (by decide) hv dX3_lastVisited_27 (fun hv => ?_)
        refine V_istore hc dX3_lastVisited_28 [(6, .int (iI (kT x5.toNat))), (0, .ref hT), (1, .int (iI x1)), (2, .int (iI x2)), (3, .int (iI x3)), (4, .int (iI x4)), (5, .int (iI x5))] (by decide) rfl ?_
        refine V_iload hc dX3_lastVisited_30 0 rfl ?_
        refine V_iload_n hc dX3_lastVisited_32 3 rfl ?_
        refine V_icmp_le (tgt := 70) hc dX3_lastVisited_33 (by decide) hv (fun hv => ?_) (fun hv => ?_)
        · refine V_iinc hc dX3_lastVisited_70 6 rfl [(5, .int (iI (x5 + 1))), (6, .int (iI (kT x5.toNat))), (0, .ref hT), (1, .int (iI x1)), (2, .int (iI x2)), (3, .int (iI x3)), (4, .int (iI x4))] (by decide) rfl ?_
          refine V_goto (tgt := 12) hc dX3_lastVisited_73 (by decide) ?_
          refine V_lv [2, 3, 4, 5, 6, 0] [(0, .ref hT), (1, .int (iI x1)), (2, .int (iI x2)), (3, .int (iI x3)), (4, .int (iI x4)), (5, .int (iI (x5 + 1)))] rfl ?_
          exact hK_12 x2 x3 x4 (x5 + 1) hv
        · refine V_iload hc dX3_lastVisited_36 0 rfl ?_
          refine V_iload_n hc dX3_lastVisited_38 4 rfl ?_
          refine V_icmp_ge (tgt := 70) hc dX3_lastVisited_39 (by decide) hv (fun hv => ?_) (fun hv => ?_)
          · refine V_iinc hc dX3_lastVisited_70 6 rfl [(5, .int (iI (x5 + 1))), (6, .int (iI (kT x5.toNat))), (0, .ref hT), (1, .int (iI x1)), (2, .int (iI x2)), (3, .int (iI x3)), (4, .int (iI x4))] (by decide) rfl ?_
            refine V_goto (tgt := 12) hc dX3_lastVisited_73 (by decide) ?_
            refine V_lv [2, 3, 4, 5, 6, 0] [(0, .ref hT), (1, .int (iI x1)), (2, .int (iI x2)), (3, .int (iI x3)), (4, .int (iI x4)), (5, .int (iI (x5 + 1)))] rfl ?_
            exact hK_12 x2 x3 x4 (x5 + 1) hv
          · refine V_iload hc dX3_lastVisited_42 6 rfl ?_
            refine V_istore hc dX3_lastVisited_44 [(4, .int (iI x5)), (6, .int (iI (kT x5.toNat))), (0, .ref hT), (1, .int (iI x1)), (2, .int (iI x2)), (3, .int (iI x3)), (5, .int (iI x5))] (by decide) rfl ?_
            refine V_iload hc dX3_lastVisited_46 1 rfl ?_
            refine V_iload_n hc dX3_lastVisited_48 3 rfl ?_
            refine V_icmp_ne (tgt := 55) hc dX3_lastVisited_49 (by decide) hv (fun hv => ?_) (fun hv => ?_)
            · refine V_iload_n hc dX3_lastVisited_55 3 rfl ?_
              refine V_iload hc dX3_lastVisited_56 1 rfl ?_
              refine V_icmp_ge (tgt := 67) hc dX3_lastVisited_58 (by decide) hv (fun hv => ?_) (fun hv => ?_)
              · refine V_iload hc dX3_lastVisited_67 1 rfl ?_
                refine V_istore_n hc dX3_lastVisited_69 [(2, .int (iI (kT x5.toNat))), (4, .int (iI x5)), (6, .int (iI (kT x5.toNat))), (0, .ref hT), (1, .int (iI x1)), (3, .int (iI x3)), (5, .int (iI x5))] (by decide) rfl ?_
                refine V_iinc hc dX3_lastVisited_70 6 rfl [(5, .int (iI (x5 + 1))), (2, .int (iI (kT x5.toNat))), (4, .int (iI x5)), (6, .int (iI (kT x5.toNat))), (0, .ref hT), (1, .int (iI x1)), (3, .int (iI x3))] (by decide) rfl ?_
                refine V_goto (tgt := 12) hc dX3_lastVisited_73 (by decide) ?_
                refine V_lv [4, 5, 1, 6, 2, 0] [(0, .ref hT), (1, .int (iI x1)), (2, .int (iI (kT x5.toNat))), (3, .int (iI x3)), (4, .int (iI x5)), (5, .int (iI (x5 + 1)))] rfl ?_
                exact hK_12 (kT x5.toNat) x3 x5 (x5 + 1) hv
              · refine V_iload hc dX3_lastVisited_61 1 rfl ?_
                refine V_istore_n hc dX3_lastVisited_63 [(3, .int (iI (kT x5.toNat))), (4, .int (iI x5)), (6, .int (iI (kT x5.toNat))), (0, .ref hT), (1, .int (iI x1)), (2, .int (iI x2)), (5, .int (iI x5))] (by decide) rfl ?_
                refine V_goto (tgt := 70) hc dX3_lastVisited_64 (by decide) ?_
                refine V_iinc hc dX3_lastVisited_70 6 rfl [(5, .int (iI (x5 + 1))), (3, .int (iI (kT x5.toNat))), (4, .int (iI x5)), (6, .int (iI (kT x5.toNat))), (0, .ref hT), (1, .int (iI x1)), (2, .int (iI x2))] (by decide) rfl ?_
                refine V_goto (tgt := 12) hc dX3_lastVisited_73 (by decide) ?_
                refine V_lv [4, 5, 6, 1, 2, 0] [(0, .ref hT), (1, .int (iI x1)), (2, .int (iI x2)), (3, .int (iI (kT x5.toNat))), (4, .int (iI x5)), (5, .int (iI (x5 + 1)))] rfl ?_
                exact hK_12 x2 (kT x5.toNat) x5 (x5 + 1) hv
            · refine V_iload hc dX3_lastVisited_52 6 rfl ?_
              exact V_iret hc hr () hv rfl dX3_lastVisited_54
  refine V_lv [0, 1] [(0, .ref hT), (1, .int (iI x1))] rfl ?_
  unfold wp_X3_lastVisited at hv
  refine V_iconst hc dX3_lastVisited_0 ?_
  refine V_istore_n hc dX3_lastVisited_1 [(2, .int (iI (-1))), (0, .ref hT), (1, .int (iI x1))] (by decide) rfl ?_
  refine V_sipush hc dX3_lastVisited_2 (by decide) ?_
  refine V_istore_n hc dX3_lastVisited_5 [(3, .int (iI 500)), (2, .int (iI (-1))), (0, .ref hT), (1, .int (iI x1))] (by decide) rfl ?_
  refine V_iconst hc dX3_lastVisited_6 ?_
  refine V_istore hc dX3_lastVisited_7 [(4, .int (iI (-1))), (3, .int (iI 500)), (2, .int (iI (-1))), (0, .ref hT), (1, .int (iI x1))] (by decide) rfl ?_
  refine V_iconst hc dX3_lastVisited_9 ?_
  refine V_istore hc dX3_lastVisited_10 [(5, .int (iI 0)), (4, .int (iI (-1))), (3, .int (iI 500)), (2, .int (iI (-1))), (0, .ref hT), (1, .int (iI x1))] (by decide) rfl ?_
  refine V_lv [4, 5, 3, 2, 1, 0] [(0, .ref hT), (1, .int (iI x1)), (2, .int (iI (-1))), (3, .int (iI 500)), (4, .int (iI (-1))), (5, .int (iI 0))] rfl ?_
  obtain ⟨n9, hv⟩ := hv
  exact L_12 nT kT x1 n9 (-1) 500 (-1) 0 hv
abbrev W1_X3_nodeWith (t : Nat → ClassId) (hT : Nat) (kTA : Nat) (dTA : Nat) (mTA : Nat) (nT : Int) (kT : Nat → Int) (dT : Nat → Int) (mT : Nat → Int) (u : Unit) : va_W := [oB hT 3 [.ref kTA, .ref dTA, .ref mTA, .int (iI nT)], aI t kTA 120 kT, aI t dTA 120 dT, aZ t mTA 120 mT]
abbrev po_X3_nodeWith (Q : Int → Prop) (r : Int) (u : Unit) : Prop := Q r
abbrev rm_X3_nodeWith : Room := { frames := 1, cells := 0, slots := 0, locals := 26 }
def wp_X3_nodeWith (nT : Int) (kT : Nat → Int) (x1 : Int) (Q : Int → Prop) : Prop := wp_X3_lastVisited nT kT x1 (fun r_1 => inR r_1 ∧ (r_1 = (-1) → Q (-1)) ∧ (¬ (r_1 = (-1)) → (0 ≤ r_1 ∧ r_1 < 120) ∧ inR (kT r_1.toNat) ∧ inR x1 ∧ (kT r_1.toNat ≠ x1 → Q (-1)) ∧ (¬ (kT r_1.toNat ≠ x1) → Q r_1)))
theorem m_X3_nodeWith_9 : Cond.fieldLink RX3 9 "BackgroundRebuild$Tree" "keys" "[I" ∈ wsX3_nodeWith := by decide +kernel
theorem i_X3_nodeWith_3 : ∀ w ∈ u_ws RX3 TX3 4, w ∈ wsX3_nodeWith := by decide +kernel
theorem ok_X3_nodeWith : yX3_nodeWith.cls = RX3 ∧ yX3_nodeWith.cls ≠ "java/lang/invoke/MethodHandle" ∧ yX3_nodeWith.cls ≠ "java/lang/invoke/VarHandle" ∧ (parseMethodDescriptor yX3_nodeWith.desc).map (fun d => d.parameters.length) = some 1 := by decide +kernel
set_option maxHeartbeats 4000000 in
set_option maxRecDepth 100000 in
theorem met_X3_nodeWith (l : Launch) (D : va_G) (t : Nat → ClassId) (hT : Nat) (kTA : Nat) (dTA : Nat) (mTA : Nat) (nT : Int) (kT : Nat → Int) (dT : Nat → Int) (mT : Nat → Int) (x1 : Int) (Q : Int → Prop) (hv : wp_X3_nodeWith nT kT x1 Q) : MI l D t yX3_nodeWith wsX3_nodeWith rm_X3_nodeWith [.ref hT, .int (iI x1)] [oB hT 3 [.ref kTA, .ref dTA, .ref mTA, .int (iI nT)], aI t kTA 120 kT, aI t dTA 120 dT, aZ t mTA 120 mT] (W1_X3_nodeWith t hT kTA dTA mTA nT kT dT mT) (po_X3_nodeWith Q) 0 0 := by
  refine M_ofi (cc := cX3_nodeWith) (nL := 3) (by decide) rfl (Nat.le_of_ble_eq_true rfl) ?_
  intro p e s m args below meth c A hc hr
  refine V_lv [0, 1] [(0, .ref hT), (1, .int (iI x1))] rfl ?_
  unfold wp_X3_nodeWith at hv
  refine V_aload_n hc dX3_nodeWith_0 0 rfl ?_
  refine V_iload_n hc dX3_nodeWith_1 1 rfl ?_
  refine V_callVI (As := [.int (iI x1)]) hc (wc := [oB hT 3 [.ref kTA, .ref dTA, .ref mTA, .int (iI nT)], aI t kTA 120 kT, aI t dTA 120 dT, aZ t mTA 120 mT]) (wr := []) (pmI (ws := [oB hT 3 [.ref kTA, .ref dTA, .ref mTA, .int (iI nT)], aI t kTA 120 kT, aI t dTA 120 dT, aZ t mTA 120 mT]) (ws1 := [oB hT 3 [.ref kTA, .ref dTA, .ref mTA, .int (iI nT)], aI t kTA 120 kT, aI t dTA 120 dT, aZ t mTA 120 mT] ++ []) [0, 1, 2, 3] 4 rfl (by decide +kernel) rfl) rfl rfl (met_X3_lastVisited l D t hT kTA dTA mTA nT kT dT mT x1 _ hv) rfl gX3_nodeWith_X3_lastVisited rfl ⟨rfl, rfl⟩ ok_X3_lastVisited (by decide) (Nat.le_of_ble_eq_true rfl) dX3_nodeWith_2 (by decide) (fun r_1 _ hv => ?_)
  try dsimp only at hv
  refine V_perm (ws1 := [oB hT 3 [.ref kTA, .ref dTA, .ref mTA, .int (iI nT)], aI t kTA 120 kT, aI t dTA 120 dT, aZ t mTA 120 mT]) (pmI (ws := [oB hT 3 [.ref kTA, .ref dTA, .ref mTA, .int (iI nT)], aI t kTA 120 kT, aI t dTA 120 dT, aZ t mTA 120 mT] ++ []) (ws1 := [oB hT 3 [.ref kTA, .ref dTA, .ref mTA, .int (iI nT)], aI t kTA 120 kT, aI t dTA 120 dT, aZ t mTA 120 mT]) [0, 1, 2, 3] 4 rfl (by decide +kernel) rfl) ?_
  refine V_istore_n hc dX3_nodeWith_5 [(2, .int (iI r_1)), (0, .ref hT), (1, .int (iI x1))] (by decide) rfl ?_
  refine V_iload_n hc dX3_nodeWith_6 0 rfl ?_
  refine V_iconst hc dX3_nodeWith_7 ?_
  refine V_icmp_eq (tgt := 25) hc dX3_nodeWith_8 (by decide) ⟨hv.1, by decide, hv.2⟩ (fun hv => ?_) (fun hv => ?_)
  · refine V_iconst hc dX3_nodeWith_25 ?_
    exact V_iret hc hr () hv rfl dX3_nodeWith_26
  · refine V_aload_n hc dX3_nodeWith_11 1 rfl ?_
    refine V_get (C := RX3) (T := TX3) (N := 4) hc i_X3_nodeWith_3 0 rfl rfl 0 (by decide) m_X3_nodeWith_9 rfl dX3_nodeWith_12 ?_
    refine V_iload_n hc dX3_nodeWith_15 0 rfl ?_
    refine V_iald hc 1 rfl (by decide) hv dX3_nodeWith_16 (fun hv => ?_)
    refine V_iload_n hc dX3_nodeWith_17 2 rfl ?_
    refine V_icmp_ne (tgt := 25) hc dX3_nodeWith_18 (by decide) hv (fun hv => ?_) (fun hv => ?_)
    · refine V_iconst hc dX3_nodeWith_25 ?_
      exact V_iret hc hr () hv rfl dX3_nodeWith_26
    · refine V_iload_n hc dX3_nodeWith_21 0 rfl ?_
      refine V_goto (tgt := 26) hc dX3_nodeWith_22 (by decide) ?_
      exact V_iret hc hr () hv rfl dX3_nodeWith_26
abbrev W1_X3_hasNode (t : Nat → ClassId) (hT : Nat) (kTA : Nat) (dTA : Nat) (mTA : Nat) (nT : Int) (kT : Nat → Int) (dT : Nat → Int) (mT : Nat → Int) (u : Unit) : va_W := [oB hT 3 [.ref kTA, .ref dTA, .ref mTA, .int (iI nT)], aI t kTA 120 kT, aI t dTA 120 dT, aZ t mTA 120 mT]
abbrev po_X3_hasNode (Q : Int → Prop) (r : Int) (u : Unit) : Prop := Q r
abbrev rm_X3_hasNode : Room := { frames := 2, cells := 0, slots := 0, locals := 48 }
def wp_X3_hasNode (nT : Int) (kT : Nat → Int) (x1 : Int) (Q : Int → Prop) : Prop := wp_X3_nodeWith nT kT x1 (fun r_1 => inR r_1 ∧ (r_1 = (-1) → Q 0) ∧ (¬ (r_1 = (-1)) → Q 1))
theorem ok_X3_hasNode : yX3_hasNode.cls = RX3 ∧ yX3_hasNode.cls ≠ "java/lang/invoke/MethodHandle" ∧ yX3_hasNode.cls ≠ "java/lang/invoke/VarHandle" ∧ (parseMethodDescriptor yX3_hasNode.desc).map (fun d => d.parameters.length) = some 1 := by decide +kernel
set_option maxHeartbeats 4000000 in
set_option maxRecDepth 100000 in
theorem met_X3_hasNode (l : Launch) (D : va_G) (t : Nat → ClassId) (hT : Nat) (kTA : Nat) (dTA : Nat) (mTA : Nat) (nT : Int) (kT : Nat → Int) (dT : Nat → Int) (mT : Nat → Int) (x1 : Int) (Q : Int → Prop) (hv : wp_X3_hasNode nT kT x1 Q) : MI l D t yX3_hasNode wsX3_hasNode rm_X3_hasNode [.ref hT, .int (iI x1)] [oB hT 3 [.ref kTA, .ref dTA, .ref mTA, .int (iI nT)], aI t kTA 120 kT, aI t dTA 120 dT, aZ t mTA 120 mT] (W1_X3_hasNode t hT kTA dTA mTA nT kT dT mT) (po_X3_hasNode Q) 0 0 := by
  refine M_ofz (cc := cX3_hasNode) (nL := 2) (by decide) rfl (Nat.le_of_ble_eq_true rfl) ?_
  intro p e s m args below meth c A hc hr
  refine V_lv [0, 1] [(0, .ref hT), (1, .int (iI x1))] rfl ?_
  unfold wp_X3_hasNode at hv
  refine V_aload_n hc dX3_hasNode_0 0 rfl ?_
  refine V_iload_n hc dX3_hasNode_1 1 rfl ?_
  refine V_callVI (As := [.int (iI x1)]) hc (wc := [oB hT 3 [.ref kTA, .ref dTA, .ref mTA, .int (iI nT)], aI t kTA 120 kT, aI t dTA 120 dT, aZ t mTA 120 mT]) (wr := []) (pmI (ws := [oB hT 3 [.ref kTA, .ref dTA, .ref mTA, .int (iI nT)], aI t kTA 120 kT, aI t dTA 120 dT, aZ t mTA 120 mT]) (ws1 := [oB hT 3 [.ref kTA, .ref dTA, .ref mTA, .int (iI nT)], aI t kTA 120 kT, aI t dTA 120 dT, aZ t mTA 120 mT] ++ []) [0, 1, 2, 3] 4 rfl (by decide +kernel) rfl) rfl rfl (met_X3_nodeWith l D t hT kTA dTA mTA nT kT dT mT x1 _ hv) rfl gX3_hasNode_X3_nodeWith rfl ⟨rfl, rfl⟩ ok_X3_nodeWith (by decide) (Nat.le_of_ble_eq_true rfl) dX3_hasNode_2 (by decide) (fun r_1 _ hv => ?_)
  try dsimp only at hv
  refine V_perm (ws1 := [oB hT 3 [.ref kTA, .ref dTA, .ref mTA, .int (iI nT)], aI t kTA 120 kT, aI t dTA 120 dT, aZ t mTA 120 mT]) (pmI (ws := [oB hT 3 [.ref kTA, .ref dTA, .ref mTA, .int (iI nT)], aI t kTA 120 kT, aI t dTA 120 dT, aZ t mTA 120 mT] ++ []) (ws1 := [oB hT 3 [.ref kTA, .ref dTA, .ref mTA, .int (iI nT)], aI t kTA 120 kT, aI t dTA 120 dT, aZ t mTA 120 mT]) [0, 1, 2, 3] 4 rfl (by decide +kernel) rfl) ?_
  refine V_iconst hc dX3_hasNode_5 ?_
  refine V_icmp_eq (tgt := 13) hc dX3_hasNode_6 (by decide) ⟨hv.1, by decide, hv.2⟩ (fun hv => ?_) (fun hv => ?_)
  · refine V_iconst hc dX3_hasNode_13 ?_
    exact V_zret hc hr () ⟨by decide, hv⟩ rfl dX3_hasNode_14
  · refine V_iconst hc dX3_hasNode_9 ?_
    refine V_goto (tgt := 14) hc dX3_hasNode_10 (by decide) ?_
    exact V_zret hc hr () ⟨by decide, hv⟩ rfl dX3_hasNode_14
abbrev W1_X3_hasPresent (t : Nat → ClassId) (hT : Nat) (kTA : Nat) (dTA : Nat) (mTA : Nat) (nT : Int) (kT : Nat → Int) (dT : Nat → Int) (mT : Nat → Int) (u : Unit) : va_W := [oB hT 3 [.ref kTA, .ref dTA, .ref mTA, .int (iI nT)], aI t kTA 120 kT, aI t dTA 120 dT, aZ t mTA 120 mT]
abbrev po_X3_hasPresent (Q : Int → Prop) (r : Int) (u : Unit) : Prop := Q r
abbrev rm_X3_hasPresent : Room := { frames := 2, cells := 0, slots := 0, locals := 48 }
def wp_X3_hasPresent (nT : Int) (kT : Nat → Int) (mT : Nat → Int) (x1 : Int) (Q : Int → Prop) : Prop := wp_X3_nodeWith nT kT x1 (fun r_1 => inR r_1 ∧ (r_1 = (-1) → Q 0) ∧ (¬ (r_1 = (-1)) → (0 ≤ r_1 ∧ r_1 < 120) ∧ inR (mT r_1.toNat) ∧ (mT r_1.toNat ≠ 0 → Q 0) ∧ (¬ (mT r_1.toNat ≠ 0) → Q 1)))
theorem m_X3_hasPresent_18 : Cond.fieldLink RX3 18 "BackgroundRebuild$Tree" "marks" "[Z" ∈ wsX3_hasPresent := by decide +kernel
theorem i_X3_hasPresent_3 : ∀ w ∈ u_ws RX3 TX3 4, w ∈ wsX3_hasPresent := by decide +kernel
theorem ok_X3_hasPresent : yX3_hasPresent.cls = RX3 ∧ yX3_hasPresent.cls ≠ "java/lang/invoke/MethodHandle" ∧ yX3_hasPresent.cls ≠ "java/lang/invoke/VarHandle" ∧ (parseMethodDescriptor yX3_hasPresent.desc).map (fun d => d.parameters.length) = some 1 := by decide +kernel
set_option maxHeartbeats 4000000 in
set_option maxRecDepth 100000 in
theorem met_X3_hasPresent (l : Launch) (D : va_G) (t : Nat → ClassId) (hT : Nat) (kTA : Nat) (dTA : Nat) (mTA : Nat) (nT : Int) (kT : Nat → Int) (dT : Nat → Int) (mT : Nat → Int) (x1 : Int) (Q : Int → Prop) (hv : wp_X3_hasPresent nT kT mT x1 Q) : MI l D t yX3_hasPresent wsX3_hasPresent rm_X3_hasPresent [.ref hT, .int (iI x1)] [oB hT 3 [.ref kTA, .ref dTA, .ref mTA, .int (iI nT)], aI t kTA 120 kT, aI t dTA 120 dT, aZ t mTA 120 mT] (W1_X3_hasPresent t hT kTA dTA mTA nT kT dT mT) (po_X3_hasPresent Q) 0 0 := by
  refine M_ofz (cc := cX3_hasPresent) (nL := 3) (by decide) rfl (Nat.le_of_ble_eq_true rfl) ?_
  intro p e s m args below meth c A hc hr
  refine V_lv [0, 1] [(0, .ref hT), (1, .int (iI x1))] rfl ?_
  unfold wp_X3_hasPresent at hv
  refine V_aload_n hc dX3_hasPresent_0 0 rfl ?_
  refine V_iload_n hc dX3_hasPresent_1 1 rfl ?_
  refine V_callVI (As := [.int (iI x1)]) hc (wc := [oB hT 3 [.ref kTA, .ref dTA, .ref mTA, .int (iI nT)], aI t kTA 120 kT, aI t dTA 120 dT, aZ t mTA 120 mT]) (wr := []) (pmI (ws := [oB hT 3 [.ref kTA, .ref dTA, .ref mTA, .int (iI nT)], aI t kTA 120 kT, aI t dTA 120 dT, aZ t mTA 120 mT]) (ws1 := [oB hT 3 [.ref kTA, .ref dTA, .ref mTA, .int (iI nT)], aI t kTA 120 kT, aI t dTA 120 dT, aZ t mTA 120 mT] ++ []) [0, 1, 2, 3] 4 rfl (by decide +kernel) rfl) rfl rfl (met_X3_nodeWith l D t hT kTA dTA mTA nT kT dT mT x1 _ hv) rfl gX3_hasPresent_X3_nodeWith rfl ⟨rfl, rfl⟩ ok_X3_nodeWith (by decide) (Nat.le_of_ble_eq_true rfl) dX3_hasPresent_2 (by decide) (fun r_1 _ hv => ?_)
  try dsimp only at hv
  refine V_perm (ws1 := [oB hT 3 [.ref kTA, .ref dTA, .ref mTA, .int (iI nT)], aI t kTA 120 kT, aI t dTA 120 dT, aZ t mTA 120 mT]) (pmI (ws := [oB hT 3 [.ref kTA, .ref dTA, .ref mTA, .int (iI nT)], aI t kTA 120 kT, aI t dTA 120 dT, aZ t mTA 120 mT] ++ []) (ws1 := [oB hT 3 [.ref kTA, .ref dTA, .ref mTA, .int (iI nT)], aI t kTA 120 kT, aI t dTA 120 dT, aZ t mTA 120 mT]) [0, 1, 2, 3] 4 rfl (by decide +kernel) rfl) ?_
  refine V_istore_n hc dX3_hasPresent_5 [(2, .int (iI r_1)), (0, .ref hT), (1, .int (iI x1))] (by decide) rfl ?_
  refine V_iload_n hc dX3_hasPresent_6 0 rfl ?_
  refine V_iconst hc dX3_hasPresent_7 ?_
  refine V_icmp_eq (tgt := 24) hc dX3_hasPresent_8 (by decide) ⟨hv.1, by decide, hv.2⟩ (fun hv => ?_) (fun hv => ?_)
  · refine V_iconst hc dX3_hasPresent_24 ?_
    exact V_zret hc hr () ⟨by decide, hv⟩ rfl dX3_hasPresent_25
  · refine V_aload_n hc dX3_hasPresent_11 1 rfl ?_
    refine V_get (C := RX3) (T := TX3) (N := 4) hc i_X3_hasPresent_3 0 rfl rfl 2 (by decide) m_X3_hasPresent_18 rfl dX3_hasPresent_12 ?_
    refine V_iload_n hc dX3_hasPresent_15 0 rfl ?_
    refine V_zald hc 3 rfl (by decide) hv dX3_hasPresent_16 (fun hv => ?_)
    refine V_if_ne (tgt := 24) hc dX3_hasPresent_17 (by decide) hv (fun hv => ?_) (fun hv => ?_)
    · refine V_iconst hc dX3_hasPresent_24 ?_
      exact V_zret hc hr () ⟨by decide, hv⟩ rfl dX3_hasPresent_25
    · refine V_iconst hc dX3_hasPresent_20 ?_
      refine V_goto (tgt := 25) hc dX3_hasPresent_21 (by decide) ?_
      exact V_zret hc hr () ⟨by decide, hv⟩ rfl dX3_hasPresent_25
abbrev W1_X3_visitsFor (t : Nat → ClassId) (hT : Nat) (kTA : Nat) (dTA : Nat) (mTA : Nat) (nT : Int) (kT : Nat → Int) (dT : Nat → Int) (mT : Nat → Int) (u : Unit) : va_W := [oB hT 3 [.ref kTA, .ref dTA, .ref mTA, .int (iI nT)], aI t kTA 120 kT, aI t dTA 120 dT, aZ t mTA 120 mT]
abbrev po_X3_visitsFor (Q : Int → Prop) (r : Int) (u : Unit) : Prop := Q r
abbrev rm_X3_visitsFor : Room := { frames := 1, cells := 0, slots := 0, locals := 26 }
def wp_X3_visitsFor (nT : Int) (kT : Nat → Int) (dT : Nat → Int) (x1 : Int) (Q : Int → Prop) : Prop := (0 ≤ x1 ∧ x1 ≤ 2147483647) ∧ wp_X3_lastVisited nT kT (x1 % 500) (fun r_1 => inR r_1 ∧ (r_1 ≠ (-1) → (0 ≤ r_1 ∧ r_1 < 120) ∧ Q (dT r_1.toNat)) ∧ (¬ (r_1 ≠ (-1)) → Q 0))
theorem m_X3_visitsFor_15 : Cond.fieldLink RX3 15 "BackgroundRebuild$Tree" "depths" "[I" ∈ wsX3_visitsFor := by decide +kernel
theorem i_X3_visitsFor_3 : ∀ w ∈ u_ws RX3 TX3 4, w ∈ wsX3_visitsFor := by decide +kernel
theorem ok_X3_visitsFor : yX3_visitsFor.cls = RX3 ∧ yX3_visitsFor.cls ≠ "java/lang/invoke/MethodHandle" ∧ yX3_visitsFor.cls ≠ "java/lang/invoke/VarHandle" ∧ (parseMethodDescriptor yX3_visitsFor.desc).map (fun d => d.parameters.length) = some 1 := by decide +kernel
set_option maxHeartbeats 4000000 in
set_option maxRecDepth 100000 in
theorem met_X3_visitsFor (l : Launch) (D : va_G) (t : Nat → ClassId) (hT : Nat) (kTA : Nat) (dTA : Nat) (mTA : Nat) (nT : Int) (kT : Nat → Int) (dT : Nat → Int) (mT : Nat → Int) (x1 : Int) (Q : Int → Prop) (hv : wp_X3_visitsFor nT kT dT x1 Q) : MI l D t yX3_visitsFor wsX3_visitsFor rm_X3_visitsFor [.ref hT, .int (iI x1)] [oB hT 3 [.ref kTA, .ref dTA, .ref mTA, .int (iI nT)], aI t kTA 120 kT, aI t dTA 120 dT, aZ t mTA 120 mT] (W1_X3_visitsFor t hT kTA dTA mTA nT kT dT mT) (po_X3_visitsFor Q) 0 0 := by
  refine M_ofi (cc := cX3_visitsFor) (nL := 3) (by decide) rfl (Nat.le_of_ble_eq_true rfl) ?_
  intro p e s m args below meth c A hc hr
  refine V_lv [0, 1] [(0, .ref hT), (1, .int (iI x1))] rfl ?_
  unfold wp_X3_visitsFor at hv
  refine V_aload_n hc dX3_visitsFor_0 0 rfl ?_
  refine V_iload_n hc dX3_visitsFor_1 1 rfl ?_
  refine V_sipush hc dX3_visitsFor_2 (by decide) ?_
  refine V_irem hc dX3_visitsFor_5 ⟨hv.1, by decide, hv.2⟩ (fun hv => ?_)
  refine V_callVI (As := [.int (iI (x1 % 500))]) hc (wc := [oB hT 3 [.ref kTA, .ref dTA, .ref mTA, .int (iI nT)], aI t kTA 120 kT, aI t dTA 120 dT, aZ t mTA 120 mT]) (wr := []) (pmI (ws := [oB hT 3 [.ref kTA, .ref dTA, .ref mTA, .int (iI nT)], aI t kTA 120 kT, aI t dTA 120 dT, aZ t mTA 120 mT]) (ws1 := [oB hT 3 [.ref kTA, .ref dTA, .ref mTA, .int (iI nT)], aI t kTA 120 kT, aI t dTA 120 dT, aZ t mTA 120 mT] ++ []) [0, 1, 2, 3] 4 rfl (by decide +kernel) rfl) rfl rfl (met_X3_lastVisited l D t hT kTA dTA mTA nT kT dT mT (x1 % 500) _ hv) rfl gX3_visitsFor_X3_lastVisited rfl ⟨rfl, rfl⟩ ok_X3_lastVisited (by decide) (Nat.le_of_ble_eq_true rfl) dX3_visitsFor_6 (by decide) (fun r_1 _ hv => ?_)
  try dsimp only at hv
  refine V_perm (ws1 := [oB hT 3 [.ref kTA, .ref dTA, .ref mTA, .int (iI nT)], aI t kTA 120 kT, aI t dTA 120 dT, aZ t mTA 120 mT]) (pmI (ws := [oB hT 3 [.ref kTA, .ref dTA, .ref mTA, .int (iI nT)], aI t kTA 120 kT, aI t dTA 120 dT, aZ t mTA 120 mT] ++ []) (ws1 := [oB hT 3 [.ref kTA, .ref dTA, .ref mTA, .int (iI nT)], aI t kTA 120 kT, aI t dTA 120 dT, aZ t mTA 120 mT]) [0, 1, 2, 3] 4 rfl (by decide +kernel) rfl) ?_
  refine V_istore_n hc dX3_visitsFor_9 [(2, .int (iI r_1)), (0, .ref hT), (1, .int (iI x1))] (by decide) rfl ?_
  refine V_iload_n hc dX3_visitsFor_10 0 rfl ?_
  refine V_iconst hc dX3_visitsFor_11 ?_
  refine V_icmp_ne (tgt := 19) hc dX3_visitsFor_12 (by decide) ⟨hv.1, by decide, hv.2⟩ (fun hv => ?_) (fun hv => ?_)
  · refine V_aload_n hc dX3_visitsFor_19 1 rfl ?_
    refine V_get (C := RX3) (T := TX3) (N := 4) hc i_X3_visitsFor_3 0 rfl rfl 1 (by decide) m_X3_visitsFor_15 rfl dX3_visitsFor_20 ?_
    refine V_iload_n hc dX3_visitsFor_23 0 rfl ?_
    refine V_iald hc 2 rfl (by decide) hv dX3_visitsFor_24 (fun hv => ?_)
    exact V_iret hc hr () hv rfl dX3_visitsFor_25
  · refine V_iconst hc dX3_visitsFor_15 ?_
    refine V_goto (tgt := 25) hc dX3_visitsFor_16 (by decide) ?_
    exact V_iret hc hr () hv rfl dX3_visitsFor_25
abbrev W1_X3_visitedKey (t : Nat → ClassId) (hT : Nat) (kTA : Nat) (dTA : Nat) (mTA : Nat) (nT : Int) (kT : Nat → Int) (dT : Nat → Int) (mT : Nat → Int) (u : Unit) : va_W := [oB hT 3 [.ref kTA, .ref dTA, .ref mTA, .int (iI nT)], aI t kTA 120 kT, aI t dTA 120 dT, aZ t mTA 120 mT]
abbrev po_X3_visitedKey (Q : Int → Prop) (r : Int) (u : Unit) : Prop := Q r
abbrev rm_X3_visitedKey : Room := { frames := 1, cells := 0, slots := 0, locals := 26 }
def wp_X3_visitedKey_26 (nT : Int) (kT : Nat → Int) (dT : Nat → Int) (x2 : Int) (Q : Int → Prop) (K_26 : Int → Prop) (x4 : Int) : Prop := inR x4 ∧ (x4 < 0 → Q (-1)) ∧ (¬ (x4 < 0) → (0 ≤ x4 ∧ x4 < 120) ∧ inR (dT x4.toNat) ∧ inR (x2 + 1) ∧ (dT x4.toNat ≠ x2 + 1 → K_26 (x4 + (-1))) ∧ (¬ (dT x4.toNat ≠ x2 + 1) → (0 ≤ x4 ∧ x4 < 120) ∧ Q (kT x4.toNat)))
def wp_X3_visitedKey (nT : Int) (kT : Nat → Int) (dT : Nat → Int) (x1 : Int) (x2 : Int) (Q : Int → Prop) : Prop := wp_X3_lastVisited nT kT x1 (fun r_1 => inR r_1 ∧ (r_1 = (-1) → Q (-1)) ∧ (¬ (r_1 = (-1)) → (0 ≤ r_1 ∧ r_1 < 120) ∧ inR x2 ∧ inR (dT r_1.toNat) ∧ (x2 < dT r_1.toNat → (∃ n, lq1 (wp_X3_visitedKey_26 nT kT dT x2 Q) n r_1)) ∧ (¬ (x2 < dT r_1.toNat) → Q (-1))))
theorem m_X3_visitedKey_15 : Cond.fieldLink RX3 15 "BackgroundRebuild$Tree" "depths" "[I" ∈ wsX3_visitedKey := by decide +kernel
theorem m_X3_visitedKey_9 : Cond.fieldLink RX3 9 "BackgroundRebuild$Tree" "keys" "[I" ∈ wsX3_visitedKey := by decide +kernel
theorem i_X3_visitedKey_3 : ∀ w ∈ u_ws RX3 TX3 4, w ∈ wsX3_visitedKey := by decide +kernel
theorem ok_X3_visitedKey : yX3_visitedKey.cls = RX3 ∧ yX3_visitedKey.cls ≠ "java/lang/invoke/MethodHandle" ∧ yX3_visitedKey.cls ≠ "java/lang/invoke/VarHandle" ∧ (parseMethodDescriptor yX3_visitedKey.desc).map (fun d => d.parameters.length) = some 2 := by decide +kernel
set_option maxHeartbeats 4000000 in
set_option maxRecDepth 100000 in
theorem met_X3_visitedKey (l : Launch) (D : va_G) (t : Nat → ClassId) (hT : Nat) (kTA : Nat) (dTA : Nat) (mTA : Nat) (nT : Int) (kT : Nat → Int) (dT : Nat → Int) (mT : Nat → Int) (x1 : Int) (x2 : Int) (Q : Int → Prop) (hv : wp_X3_visitedKey nT kT dT x1 x2 Q) : MI l D t yX3_visitedKey wsX3_visitedKey rm_X3_visitedKey [.ref hT, .int (iI x1), .int (iI x2)] [oB hT 3 [.ref kTA, .ref dTA, .ref mTA, .int (iI nT)], aI t kTA 120 kT, aI t dTA 120 dT, aZ t mTA 120 mT] (W1_X3_visitedKey t hT kTA dTA mTA nT kT dT mT) (po_X3_visitedKey Q) 0 0 := by
  refine M_ofi (cc := cX3_visitedKey) (nL := 5) (by decide) rfl (Nat.le_of_ble_eq_true rfl) ?_
  intro p e s m args below meth c A hc hr
  have L_26 : ∀ (nT : Int) (kT : Nat → Int) (dT : Nat → Int) (x2 : Int) (n9 : Nat) (x4 : Int), lq1 (wp_X3_visitedKey_26 nT kT dT x2 Q) n9 x4 → V p l e rm_X3_visitedKey s m args below meth c D A 5 0 0 (MQ below (QI D A (W1_X3_visitedKey t hT kTA dTA mTA nT kT dT mT) (po_X3_visitedKey Q)) args s 0 0 A) 26 [(0, .ref hT), (2, .int (iI x2)), (4, .int (iI x4))] [] [oB hT 3 [.ref kTA, .ref dTA, .ref mTA, .int (iI nT)], aI t kTA 120 kT, aI t dTA 120 dT, aZ t mTA 120 mT] := by
    intro nT kT dT x2 n9
    induction n9 with
    | zero =>
      intro x4 hv
      exact hv.elim
    | succ n9 ih =>
      intro x4 hv
      have hv : wp_X3_visitedKey_26 nT kT dT x2 Q (lq1 (wp_X3_visitedKey_26 nT kT dT x2 Q) n9) x4 := hv
      generalize lq1 (wp_X3_visitedKey_26 nT kT dT x2 Q) n9 = K_26 at hv ih
      have hK_26 := ih
      unfold wp_X3_visitedKey_26 at hv
      refine V_iload hc dX3_visitedKey_26 2 rfl ?_
      refine V_if_lt (tgt := 58) hc dX3_visitedKey_28 (by decide) hv (fun hv => ?_) (fun hv => ?_)
      · refine V_iconst hc dX3_visitedKey_58 ?_
        exact V_iret hc hr () hv rfl dX3_visitedKey_59
      · refine V_aload_n hc dX3_visitedKey_31 0 rfl ?_
        refine V_get (C := RX3) (T := TX3) (N := 4) hc i_X3_visitedKey_3 0 rfl rfl 1 (by decide) m_X3_visitedKey_15 rfl dX3_visitedKey_32 ?_
        refine V_iload hc dX3_visitedKey_35 2 rfl ?_
        refine V_iald hc 2 rfl (by decide) hv dX3_visitedKey_37 (fun hv => ?_)
        refine V_iload_n hc dX3_visitedKey_38 1 rfl ?_
        refine V_iconst hc dX3_visitedKey_39 ?_
        refine V_iadd hc dX3_visitedKey_40 ?_
        refine V_icmp_ne (tgt := 52) hc dX3_visitedKey_41 (by decide) hv (fun hv => ?_) (fun hv => ?_)
        · refine V_iinc hc dX3_visitedKey_52 2 rfl [(4, .int (iI (x4 + (-1)))), (0, .ref hT), (2, .int (iI x2))] (by decide) rfl ?_
          refine V_goto (tgt := 26) hc dX3_visitedKey_55 (by decide) ?_
          refine V_lv [1, 2, 0] [(0, .ref hT), (2, .int (iI x2)), (4, .int (iI (x4 + (-1))))] rfl ?_
          exact hK_26 (x4 + (-1)) hv
        · refine V_aload_n hc dX3_visitedKey_44 0 rfl ?_
          refine V_get (C := RX3) (T := TX3) (N := 4) hc i_X3_visitedKey_3 0 rfl rfl 0 (by decide) m_X3_visitedKey_9 rfl dX3_visitedKey_45 ?_
          refine V_iload hc dX3_visitedKey_48 2 rfl ?_
          refine V_iald hc 1 rfl (by decide) hv dX3_visitedKey_50 (fun hv => ?_)
          exact V_iret hc hr () hv rfl dX3_visitedKey_51
  refine V_lv [0, 1, 2] [(0, .ref hT), (1, .int (iI x1)), (2, .int (iI x2))] rfl ?_
  unfold wp_X3_visitedKey at hv
  refine V_aload_n hc dX3_visitedKey_0 0 rfl ?_
  refine V_iload_n hc dX3_visitedKey_1 1 rfl ?_
  refine V_callVI (As := [.int (iI x1)]) hc (wc := [oB hT 3 [.ref kTA, .ref dTA, .ref mTA, .int (iI nT)], aI t kTA 120 kT, aI t dTA 120 dT, aZ t mTA 120 mT]) (wr := []) (pmI (ws := [oB hT 3 [.ref kTA, .ref dTA, .ref mTA, .int (iI nT)], aI t kTA 120 kT, aI t dTA 120 dT, aZ t mTA 120 mT]) (ws1 := [oB hT 3 [.ref kTA, .ref dTA, .ref mTA, .int (iI nT)], aI t kTA 120 kT, aI t dTA 120 dT, aZ t mTA 120 mT] ++ []) [0, 1, 2, 3] 4 rfl (by decide +kernel) rfl) rfl rfl (met_X3_lastVisited l D t hT kTA dTA mTA nT kT dT mT x1 _ hv) rfl gX3_visitedKey_X3_lastVisited rfl ⟨rfl, rfl⟩ ok_X3_lastVisited (by decide) (Nat.le_of_ble_eq_true rfl) dX3_visitedKey_2 (by decide) (fun r_1 _ hv => ?_)
  try dsimp only at hv
  refine V_perm (ws1 := [oB hT 3 [.ref kTA, .ref dTA, .ref mTA, .int (iI nT)], aI t kTA 120 kT, aI t dTA 120 dT, aZ t mTA 120 mT]) (pmI (ws := [oB hT 3 [.ref kTA, .ref dTA, .ref mTA, .int (iI nT)], aI t kTA 120 kT, aI t dTA 120 dT, aZ t mTA 120 mT] ++ []) (ws1 := [oB hT 3 [.ref kTA, .ref dTA, .ref mTA, .int (iI nT)], aI t kTA 120 kT, aI t dTA 120 dT, aZ t mTA 120 mT]) [0, 1, 2, 3] 4 rfl (by decide +kernel) rfl) ?_
  refine V_istore_n hc dX3_visitedKey_5 [(3, .int (iI r_1)), (0, .ref hT), (1, .int (iI x1)), (2, .int (iI x2))] (by decide) rfl ?_
  refine V_iload_n hc dX3_visitedKey_6 0 rfl ?_
  refine V_iconst hc dX3_visitedKey_7 ?_
  refine V_icmp_eq (tgt := 21) hc dX3_visitedKey_8 (by decide) ⟨hv.1, by decide, hv.2⟩ (fun hv => ?_) (fun hv => ?_)
  · refine V_iconst hc dX3_visitedKey_21 ?_
    exact V_iret hc hr () hv rfl dX3_visitedKey_22
  · refine V_iload_n hc dX3_visitedKey_11 3 rfl ?_
    refine V_aload_n hc dX3_visitedKey_12 1 rfl ?_
    refine V_get (C := RX3) (T := TX3) (N := 4) hc i_X3_visitedKey_3 0 rfl rfl 1 (by decide) m_X3_visitedKey_15 rfl dX3_visitedKey_13 ?_
    refine V_iload_n hc dX3_visitedKey_16 0 rfl ?_
    refine V_iald hc 2 rfl (by decide) hv dX3_visitedKey_17 (fun hv => ?_)
    refine V_icmp_lt (tgt := 23) hc dX3_visitedKey_18 (by decide) hv (fun hv => ?_) (fun hv => ?_)
    · refine V_iload_n hc dX3_visitedKey_23 0 rfl ?_
      refine V_istore hc dX3_visitedKey_24 [(4, .int (iI r_1)), (3, .int (iI r_1)), (0, .ref hT), (1, .int (iI x1)), (2, .int (iI x2))] (by decide) rfl ?_
      refine V_lv [2, 4, 0] [(0, .ref hT), (2, .int (iI x2)), (4, .int (iI r_1))] rfl ?_
      obtain ⟨n9, hv⟩ := hv
      exact L_26 nT kT dT x2 n9 r_1 hv
    · refine V_iconst hc dX3_visitedKey_21 ?_
      exact V_iret hc hr () hv rfl dX3_visitedKey_22
abbrev W1_X3_subtreeEnd (t : Nat → ClassId) (hT : Nat) (kTA : Nat) (dTA : Nat) (mTA : Nat) (nT : Int) (kT : Nat → Int) (dT : Nat → Int) (mT : Nat → Int) (u : Unit) : va_W := [oB hT 3 [.ref kTA, .ref dTA, .ref mTA, .int (iI nT)], aI t kTA 120 kT, aI t dTA 120 dT, aZ t mTA 120 mT]
abbrev po_X3_subtreeEnd (Q : Int → Prop) (r : Int) (u : Unit) : Prop := Q r
abbrev rm_X3_subtreeEnd : Room := { frames := 0, cells := 0, slots := 0, locals := 0 }
def wp_X3_subtreeEnd_4 (nT : Int) (dT : Nat → Int) (x1 : Int) (Q : Int → Prop) (K_4 : Int → Prop) (x2 : Int) : Prop := inR x2 ∧ inR nT ∧ (x2 ≥ nT → Q x2) ∧ (¬ (x2 ≥ nT) → (0 ≤ x2 ∧ x2 < 120) ∧ (0 ≤ x1 ∧ x1 < 120) ∧ inR (dT x2.toNat) ∧ inR (dT x1.toNat) ∧ (dT x2.toNat ≤ dT x1.toNat → Q x2) ∧ (¬ (dT x2.toNat ≤ dT x1.toNat) → K_4 (x2 + 1)))
def wp_X3_subtreeEnd (nT : Int) (dT : Nat → Int) (x1 : Int) (Q : Int → Prop) : Prop := (∃ n, lq1 (wp_X3_subtreeEnd_4 nT dT x1 Q) n (x1 + 1))
theorem m_X3_subtreeEnd_22 : Cond.fieldLink RX3 22 "BackgroundRebuild$Tree" "nodes" "I" ∈ wsX3_subtreeEnd := by decide +kernel
theorem m_X3_subtreeEnd_15 : Cond.fieldLink RX3 15 "BackgroundRebuild$Tree" "depths" "[I" ∈ wsX3_subtreeEnd := by decide +kernel
theorem i_X3_subtreeEnd_3 : ∀ w ∈ u_ws RX3 TX3 4, w ∈ wsX3_subtreeEnd := by decide +kernel
theorem ok_X3_subtreeEnd : yX3_subtreeEnd.cls = RX3 ∧ yX3_subtreeEnd.cls ≠ "java/lang/invoke/MethodHandle" ∧ yX3_subtreeEnd.cls ≠ "java/lang/invoke/VarHandle" ∧ (parseMethodDescriptor yX3_subtreeEnd.desc).map (fun d => d.parameters.length) = some 1 := by decide +kernel
set_option maxHeartbeats 4000000 in
set_option maxRecDepth 100000 in
theorem met_X3_subtreeEnd (l : Launch) (D : va_G) (t : Nat → ClassId) (hT : Nat) (kTA : Nat) (dTA : Nat) (mTA : Nat) (nT : Int) (kT : Nat → Int) (dT : Nat → Int) (mT : Nat → Int) (x1 : Int) (Q : Int → Prop) (hv : wp_X3_subtreeEnd nT dT x1 Q) : MI l D t yX3_subtreeEnd wsX3_subtreeEnd rm_X3_subtreeEnd [.ref hT, .int (iI x1)] [oB hT 3 [.ref kTA, .ref dTA, .ref mTA, .int (iI nT)], aI t kTA 120 kT, aI t dTA 120 dT, aZ t mTA 120 mT] (W1_X3_subtreeEnd t hT kTA dTA mTA nT kT dT mT) (po_X3_subtreeEnd Q) 0 0 := by
  refine M_ofi (cc := cX3_subtreeEnd) (nL := 3) (by decide) rfl (Nat.le_of_ble_eq_true rfl) ?_
  intro p e s m args below meth c A hc hr
  have L_4 : ∀ (nT : Int) (dT : Nat → Int) (x1 : Int) (n9 : Nat) (x2 : Int), lq1 (wp_X3_subtreeEnd_4 nT dT x1 Q) n9 x2 → V p l e rm_X3_subtreeEnd s m args below meth c D A 3 0 0 (MQ below (QI D A (W1_X3_subtreeEnd t hT kTA dTA mTA nT kT dT mT) (po_X3_subtreeEnd Q)) args s 0 0 A) 4 [(0, .ref hT), (1, .int (iI x1)), (2, .int (iI x2))] [] [oB hT 3 [.ref kTA, .ref dTA, .ref mTA, .int (iI nT)], aI t kTA 120 kT, aI t dTA 120 dT, aZ t mTA 120 mT] := by
    intro nT dT x1 n9
    induction n9 with
    | zero =>
      intro x2 hv
      exact hv.elim
    | succ n9 ih =>
      intro x2 hv
      have hv : wp_X3_subtreeEnd_4 nT dT x1 Q (lq1 (wp_X3_subtreeEnd_4 nT dT x1 Q) n9) x2 := hv
      generalize lq1 (wp_X3_subtreeEnd_4 nT dT x1 Q) n9 = K_4 at hv ih
      have hK_4 := ih
      unfold wp_X3_subtreeEnd_4 at hv
      refine V_iload_n hc dX3_subtreeEnd_4 2 rfl ?_
      refine V_aload_n hc dX3_subtreeEnd_5 0 rfl ?_
      refine V_get (C := RX3) (T := TX3) (N := 4) hc i_X3_subtreeEnd_3 0 rfl rfl 3 (by decide) m_X3_subtreeEnd_22 rfl dX3_subtreeEnd_6 ?_
      refine V_icmp_ge (tgt := 33) hc dX3_subtreeEnd_9 (by decide) hv (fun hv => ?_) (fun hv => ?_)
      · refine V_iload_n hc dX3_subtreeEnd_33 2 rfl ?_
        exact V_iret hc hr () hv rfl dX3_subtreeEnd_34
      · refine V_aload_n hc dX3_subtreeEnd_12 0 rfl ?_
        refine V_get (C := RX3) (T := TX3) (N := 4) hc i_X3_subtreeEnd_3 0 rfl rfl 1 (by decide) m_X3_subtreeEnd_15 rfl dX3_subtreeEnd_13 ?_
        refine V_iload_n hc dX3_subtreeEnd_16 2 rfl ?_
        refine V_iald hc 2 rfl (by decide) hv dX3_subtreeEnd_17 (fun hv => ?_)
        refine V_aload_n hc dX3_subtreeEnd_18 0 rfl ?_
        refine V_get (C := RX3) (T := TX3) (N := 4) hc i_X3_subtreeEnd_3 0 rfl rfl 1 (by decide) m_X3_subtreeEnd_15 rfl dX3_subtreeEnd_19 ?_
        refine V_iload_n hc dX3_subtreeEnd_22 1 rfl ?_
        refine V_iald hc 2 rfl (by decide) hv dX3_subtreeEnd_23 (fun hv => ?_)
        refine V_icmp_le (tgt := 33) hc dX3_subtreeEnd_24 (by decide) hv (fun hv => ?_) (fun hv => ?_)
        · refine V_iload_n hc dX3_subtreeEnd_33 2 rfl ?_
          exact V_iret hc hr () hv rfl dX3_subtreeEnd_34
        · refine V_iinc hc dX3_subtreeEnd_27 2 rfl [(2, .int (iI (x2 + 1))), (0, .ref hT), (1, .int (iI x1))] (by decide) rfl ?_
          refine V_goto (tgt := 4) hc dX3_subtreeEnd_30 (by decide) ?_
          refine V_lv [1, 2, 0] [(0, .ref hT), (1, .int (iI x1)), (2, .int (iI (x2 + 1)))] rfl ?_
          exact hK_4 (x2 + 1) hv
  refine V_lv [0, 1] [(0, .ref hT), (1, .int (iI x1))] rfl ?_
  unfold wp_X3_subtreeEnd at hv
  refine V_iload_n hc dX3_subtreeEnd_0 1 rfl ?_
  refine V_iconst hc dX3_subtreeEnd_1 ?_
  refine V_iadd hc dX3_subtreeEnd_2 ?_
  refine V_istore_n hc dX3_subtreeEnd_3 [(2, .int (iI (x1 + 1))), (0, .ref hT), (1, .int (iI x1))] (by decide) rfl ?_
  refine V_lv [1, 2, 0] [(0, .ref hT), (1, .int (iI x1)), (2, .int (iI (x1 + 1)))] rfl ?_
  obtain ⟨n9, hv⟩ := hv
  exact L_4 nT dT x1 n9 (x1 + 1) hv
abbrev W1_X3_grow (t : Nat → ClassId) (hT : Nat) (kTA : Nat) (dTA : Nat) (mTA : Nat) (u : (Int) × (Nat → Int) × (Nat → Int) × (Nat → Int)) : va_W := [oB hT 3 [.ref kTA, .ref dTA, .ref mTA, .int (iI u.1)], aI t kTA 120 u.2.1, aI t dTA 120 u.2.2.1, aZ t mTA 120 u.2.2.2]
abbrev po_X3_grow (Q : Int → (Int) → (Nat → Int) → (Nat → Int) → (Nat → Int) → Prop) (r : Int) (u : (Int) × (Nat → Int) × (Nat → Int) × (Nat → Int)) : Prop := Q r u.1 u.2.1 u.2.2.1 u.2.2.2
abbrev rm_X3_grow : Room := { frames := 1, cells := 0, slots := 0, locals := 60 }
def wp_X3_grow_53 (nT : Int) (kT : Nat → Int) (dT : Nat → Int) (mT : Nat → Int) (x2 : Int) (x3 : Int) (x4 : Int) (Q : Int → (Int) → (Nat → Int) → (Nat → Int) → (Nat → Int) → Prop) : Prop := (0 ≤ x3 ∧ 0 ≤ x3 + 1 ∧ 0 ≤ nT - x3) ∧ (x3 + (nT - x3) ≤ 120 ∧ x3 + 1 + (nT - x3) ≤ 120) ∧ (0 ≤ x3 ∧ 0 ≤ x3 + 1 ∧ 0 ≤ nT - x3) ∧ (x3 + (nT - x3) ≤ 120 ∧ x3 + 1 + (nT - x3) ≤ 120) ∧ (0 ≤ x3 ∧ 0 ≤ x3 + 1 ∧ 0 ≤ nT - x3) ∧ (x3 + (nT - x3) ≤ 120 ∧ x3 + 1 + (nT - x3) ≤ 120) ∧ (∀ i : Nat, i < (nT - x3).toNat → mT (x3.toNat + i) = 0 ∨ mT (x3.toNat + i) = 1) ∧ (0 ≤ x3 ∧ x3 < 120) ∧ (0 ≤ x3 ∧ x3 < 120) ∧ (0 ≤ x3 ∧ x3 < 120) ∧ Q 1 (nT + 1) (uI (cpI kT kT (x3.toNat) ((x3 + 1).toNat) ((nT - x3).toNat)) (x3.toNat) x2) (uI (cpI dT dT (x3.toNat) ((x3 + 1).toNat) ((nT - x3).toNat)) (x3.toNat) x4) (uI (cpI mT mT (x3.toNat) ((x3 + 1).toNat) ((nT - x3).toNat)) (x3.toNat) 0)
def wp_X3_grow_42 (nT : Int) (kT : Nat → Int) (dT : Nat → Int) (mT : Nat → Int) (x1 : Int) (x2 : Int) (s0 : Int) (Q : Int → (Int) → (Nat → Int) → (Nat → Int) → (Nat → Int) → Prop) : Prop := (0 ≤ x1 ∧ x1 < 120) ∧ wp_X3_grow_53 nT kT dT mT x2 s0 ((dT x1.toNat) + 1) Q
def wp_X3_grow (nT : Int) (kT : Nat → Int) (dT : Nat → Int) (mT : Nat → Int) (x1 : Int) (x2 : Int) (Q : Int → (Int) → (Nat → Int) → (Nat → Int) → (Nat → Int) → Prop) : Prop := inR nT ∧ (nT < 120 → inR x1 ∧ (x1 = (-1) → wp_X3_grow_53 nT kT dT mT x2 0 1 Q) ∧ (¬ (x1 = (-1)) → (0 ≤ x1 ∧ x1 < 120) ∧ inR x2 ∧ inR (kT x1.toNat) ∧ (x2 ≥ kT x1.toNat → wp_X3_subtreeEnd nT dT x1 (fun r_1 => wp_X3_grow_42 nT kT dT mT x1 x2 r_1 Q)) ∧ (¬ (x2 ≥ kT x1.toNat) → wp_X3_grow_42 nT kT dT mT x1 x2 (x1 + 1) Q))) ∧ (¬ (nT < 120) → Q 0 nT kT dT mT)
theorem m_X3_grow_22 : Cond.fieldLink RX3 22 "BackgroundRebuild$Tree" "nodes" "I" ∈ wsX3_grow := by decide +kernel
theorem m_X3_grow_9 : Cond.fieldLink RX3 9 "BackgroundRebuild$Tree" "keys" "[I" ∈ wsX3_grow := by decide +kernel
theorem m_X3_grow_15 : Cond.fieldLink RX3 15 "BackgroundRebuild$Tree" "depths" "[I" ∈ wsX3_grow := by decide +kernel
theorem m_X3_grow_ac26 : Cond.methodLink RX3 26 arraycopyName ∈ wsX3_grow := by decide +kernel
theorem m_X3_grow_acn : Cond.native arraycopyName ∈ wsX3_grow := by decide +kernel
theorem m_X3_grow_acs : Cond.static arraycopyName ∈ wsX3_grow := by decide +kernel
theorem m_X3_grow_aci : Cond.initialized "java/lang/System" ∈ wsX3_grow := by decide +kernel
theorem m_X3_grow_18 : Cond.fieldLink RX3 18 "BackgroundRebuild$Tree" "marks" "[Z" ∈ wsX3_grow := by decide +kernel
theorem i_X3_grow_3 : ∀ w ∈ u_ws RX3 TX3 4, w ∈ wsX3_grow := by decide +kernel
theorem ok_X3_grow : yX3_grow.cls = RX3 ∧ yX3_grow.cls ≠ "java/lang/invoke/MethodHandle" ∧ yX3_grow.cls ≠ "java/lang/invoke/VarHandle" ∧ (parseMethodDescriptor yX3_grow.desc).map (fun d => d.parameters.length) = some 2 := by decide +kernel
set_option maxHeartbeats 4000000 in
set_option maxRecDepth 100000 in
theorem met_X3_grow (l : Launch) (D : va_G) (t : Nat → ClassId) (hT : Nat) (kTA : Nat) (dTA : Nat) (mTA : Nat) (nT : Int) (kT : Nat → Int) (dT : Nat → Int) (mT : Nat → Int) (x1 : Int) (x2 : Int) (Q : Int → (Int) → (Nat → Int) → (Nat → Int) → (Nat → Int) → Prop) (hv : wp_X3_grow nT kT dT mT x1 x2 Q) : MI l D t yX3_grow wsX3_grow rm_X3_grow [.ref hT, .int (iI x1), .int (iI x2)] [oB hT 3 [.ref kTA, .ref dTA, .ref mTA, .int (iI nT)], aI t kTA 120 kT, aI t dTA 120 dT, aZ t mTA 120 mT] (W1_X3_grow t hT kTA dTA mTA) (po_X3_grow Q) 0 0 := by
  refine M_ofz (cc := cX3_grow) (nL := 6) (by decide) rfl (Nat.le_of_ble_eq_true rfl) ?_
  intro p e s m args below meth c A hc hr
  have C_53 : ∀ (nT : Int) (kT : Nat → Int) (dT : Nat → Int) (mT : Nat → Int) (x2 : Int) (x3 : Int) (x4 : Int), wp_X3_grow_53 nT kT dT mT x2 x3 x4 Q → V p l e rm_X3_grow s m args below meth c D A 6 0 0 (MQ below (QI D A (W1_X3_grow t hT kTA dTA mTA) (po_X3_grow Q)) args s 0 0 A) 53 [(0, .ref hT), (2, .int (iI x2)), (3, .int (iI x3)), (4, .int (iI x4))] [] [oB hT 3 [.ref kTA, .ref dTA, .ref mTA, .int (iI nT)], aI t kTA 120 kT, aI t dTA 120 dT, aZ t mTA 120 mT] := by
    intro nT kT dT mT x2 x3 x4 hv
    unfold wp_X3_grow_53 at hv
    refine V_aload_n hc dX3_grow_53 0 rfl ?_
    refine V_get (C := RX3) (T := TX3) (N := 4) hc i_X3_grow_3 0 rfl rfl 3 (by decide) m_X3_grow_22 rfl dX3_grow_54 ?_
    refine V_iload_n hc dX3_grow_57 2 rfl ?_
    refine V_isub hc dX3_grow_58 ?_
    refine V_istore hc dX3_grow_59 [(5, .int (iI (nT - x3))), (0, .ref hT), (2, .int (iI x2)), (3, .int (iI x3)), (4, .int (iI x4))] (by decide) rfl ?_
    refine V_aload_n hc dX3_grow_61 1 rfl ?_
    refine V_get (C := RX3) (T := TX3) (N := 4) hc i_X3_grow_3 0 rfl rfl 0 (by decide) m_X3_grow_9 rfl dX3_grow_62 ?_
    refine V_iload_n hc dX3_grow_65 3 rfl ?_
    refine V_aload_n hc dX3_grow_66 1 rfl ?_
    refine V_get (C := RX3) (T := TX3) (N := 4) hc i_X3_grow_3 0 rfl rfl 0 (by decide) m_X3_grow_9 rfl dX3_grow_67 ?_
    refine V_iload_n hc dX3_grow_70 3 rfl ?_
    refine V_iconst hc dX3_grow_71 ?_
    refine V_iadd hc dX3_grow_72 ?_
    refine V_iload hc dX3_grow_73 0 rfl ?_
    refine V_copyi hc m_X3_grow_ac26 m_X3_grow_acn m_X3_grow_acs m_X3_grow_aci 1 1 rfl rfl (by decide) (by decide) hv (by decide) (Nat.le_of_ble_eq_true rfl) dX3_grow_75 [oB hT 3 [.ref kTA, .ref dTA, .ref mTA, .int (iI nT)], aI t kTA 120 (cpI kT kT (x3.toNat) ((x3 + 1).toNat) ((nT - x3).toNat)), aI t dTA 120 dT, aZ t mTA 120 mT] rfl (fun hv => ?_)
    refine V_aload_n hc dX3_grow_78 1 rfl ?_
    refine V_get (C := RX3) (T := TX3) (N := 4) hc i_X3_grow_3 0 rfl rfl 1 (by decide) m_X3_grow_15 rfl dX3_grow_79 ?_
    refine V_iload_n hc dX3_grow_82 3 rfl ?_
    refine V_aload_n hc dX3_grow_83 1 rfl ?_
    refine V_get (C := RX3) (T := TX3) (N := 4) hc i_X3_grow_3 0 rfl rfl 1 (by decide) m_X3_grow_15 rfl dX3_grow_84 ?_
    refine V_iload_n hc dX3_grow_87 3 rfl ?_
    refine V_iconst hc dX3_grow_88 ?_
    refine V_iadd hc dX3_grow_89 ?_
    refine V_iload hc dX3_grow_90 0 rfl ?_
    refine V_copyi hc m_X3_grow_ac26 m_X3_grow_acn m_X3_grow_acs m_X3_grow_aci 2 2 rfl rfl (by decide) (by decide) hv (by decide) (Nat.le_of_ble_eq_true rfl) dX3_grow_92 [oB hT 3 [.ref kTA, .ref dTA, .ref mTA, .int (iI nT)], aI t kTA 120 (cpI kT kT (x3.toNat) ((x3 + 1).toNat) ((nT - x3).toNat)), aI t dTA 120 (cpI dT dT (x3.toNat) ((x3 + 1).toNat) ((nT - x3).toNat)), aZ t mTA 120 mT] rfl (fun hv => ?_)
    refine V_aload_n hc dX3_grow_95 1 rfl ?_
    refine V_get (C := RX3) (T := TX3) (N := 4) hc i_X3_grow_3 0 rfl rfl 2 (by decide) m_X3_grow_18 rfl dX3_grow_96 ?_
    refine V_iload_n hc dX3_grow_99 3 rfl ?_
    refine V_aload_n hc dX3_grow_100 1 rfl ?_
    refine V_get (C := RX3) (T := TX3) (N := 4) hc i_X3_grow_3 0 rfl rfl 2 (by decide) m_X3_grow_18 rfl dX3_grow_101 ?_
    refine V_iload_n hc dX3_grow_104 3 rfl ?_
    refine V_iconst hc dX3_grow_105 ?_
    refine V_iadd hc dX3_grow_106 ?_
    refine V_iload hc dX3_grow_107 0 rfl ?_
    refine V_copyz hc m_X3_grow_ac26 m_X3_grow_acn m_X3_grow_acs m_X3_grow_aci 3 3 rfl rfl (by decide) (by decide) hv (by decide) (Nat.le_of_ble_eq_true rfl) dX3_grow_109 [oB hT 3 [.ref kTA, .ref dTA, .ref mTA, .int (iI nT)], aI t kTA 120 (cpI kT kT (x3.toNat) ((x3 + 1).toNat) ((nT - x3).toNat)), aI t dTA 120 (cpI dT dT (x3.toNat) ((x3 + 1).toNat) ((nT - x3).toNat)), aZ t mTA 120 (cpI mT mT (x3.toNat) ((x3 + 1).toNat) ((nT - x3).toNat))] rfl (fun hv => ?_)
    refine V_aload_n hc dX3_grow_112 1 rfl ?_
    refine V_get (C := RX3) (T := TX3) (N := 4) hc i_X3_grow_3 0 rfl rfl 0 (by decide) m_X3_grow_9 rfl dX3_grow_113 ?_
    refine V_iload_n hc dX3_grow_116 3 rfl ?_
    refine V_iload_n hc dX3_grow_117 2 rfl ?_
    refine V_iast hc 1 rfl (by decide) hv dX3_grow_118 [oB hT 3 [.ref kTA, .ref dTA, .ref mTA, .int (iI nT)], aI t kTA 120 (uI (cpI kT kT (x3.toNat) ((x3 + 1).toNat) ((nT - x3).toNat)) (x3.toNat) x2), aI t dTA 120 (cpI dT dT (x3.toNat) ((x3 + 1).toNat) ((nT - x3).toNat)), aZ t mTA 120 (cpI mT mT (x3.toNat) ((x3 + 1).toNat) ((nT - x3).toNat))] rfl (fun hv => ?_)
    refine V_aload_n hc dX3_grow_119 1 rfl ?_
    refine V_get (C := RX3) (T := TX3) (N := 4) hc i_X3_grow_3 0 rfl rfl 1 (by decide) m_X3_grow_15 rfl dX3_grow_120 ?_
    refine V_iload_n hc dX3_grow_123 3 rfl ?_
    refine V_iload hc dX3_grow_124 4 rfl ?_
    refine V_iast hc 2 rfl (by decide) hv dX3_grow_126 [oB hT 3 [.ref kTA, .ref dTA, .ref mTA, .int (iI nT)], aI t kTA 120 (uI (cpI kT kT (x3.toNat) ((x3 + 1).toNat) ((nT - x3).toNat)) (x3.toNat) x2), aI t dTA 120 (uI (cpI dT dT (x3.toNat) ((x3 + 1).toNat) ((nT - x3).toNat)) (x3.toNat) x4), aZ t mTA 120 (cpI mT mT (x3.toNat) ((x3 + 1).toNat) ((nT - x3).toNat))] rfl (fun hv => ?_)
    refine V_aload_n hc dX3_grow_127 1 rfl ?_
    refine V_get (C := RX3) (T := TX3) (N := 4) hc i_X3_grow_3 0 rfl rfl 2 (by decide) m_X3_grow_18 rfl dX3_grow_128 ?_
    refine V_iload_n hc dX3_grow_131 3 rfl ?_
    refine V_iconst hc dX3_grow_132 ?_
    refine V_zast hc 3 rfl (by decide) ⟨hv.1, by decide, hv.2⟩ dX3_grow_133 [oB hT 3 [.ref kTA, .ref dTA, .ref mTA, .int (iI nT)], aI t kTA 120 (uI (cpI kT kT (x3.toNat) ((x3 + 1).toNat) ((nT - x3).toNat)) (x3.toNat) x2), aI t dTA 120 (uI (cpI dT dT (x3.toNat) ((x3 + 1).toNat) ((nT - x3).toNat)) (x3.toNat) x4), aZ t mTA 120 (uI (cpI mT mT (x3.toNat) ((x3 + 1).toNat) ((nT - x3).toNat)) (x3.toNat) 0)] rfl (fun hv => ?_)
    refine V_aload_n hc dX3_grow_134 1 rfl ?_
    refine V_dup hc dX3_grow_135 rfl ?_
    refine V_get (C := RX3) (T := TX3) (N := 4) hc i_X3_grow_3 0 rfl rfl 3 (by decide) m_X3_grow_22 rfl dX3_grow_136 ?_
    refine V_iconst hc dX3_grow_139 ?_
    refine V_iadd hc dX3_grow_140 ?_
    refine V_puti (C := RX3) (T := TX3) (N := 4) hc i_X3_grow_3 0 rfl rfl 3 (by decide) m_X3_grow_22 tyX3 tyX3_ok nmX3 rfl (by decide +kernel) (Nat.le_of_ble_eq_true rfl) dX3_grow_141 [oB hT 3 [.ref kTA, .ref dTA, .ref mTA, .int (iI (nT + 1))], aI t kTA 120 (uI (cpI kT kT (x3.toNat) ((x3 + 1).toNat) ((nT - x3).toNat)) (x3.toNat) x2), aI t dTA 120 (uI (cpI dT dT (x3.toNat) ((x3 + 1).toNat) ((nT - x3).toNat)) (x3.toNat) x4), aZ t mTA 120 (uI (cpI mT mT (x3.toNat) ((x3 + 1).toNat) ((nT - x3).toNat)) (x3.toNat) 0)] rfl ?_
    refine V_iconst hc dX3_grow_144 ?_
    exact V_zret hc hr (nT + 1, uI (cpI kT kT (x3.toNat) ((x3 + 1).toNat) ((nT - x3).toNat)) (x3.toNat) x2, uI (cpI dT dT (x3.toNat) ((x3 + 1).toNat) ((nT - x3).toNat)) (x3.toNat) x4, uI (cpI mT mT (x3.toNat) ((x3 + 1).toNat) ((nT - x3).toNat)) (x3.toNat) 0) ⟨by decide, hv⟩ rfl dX3_grow_145
  have C_42 : ∀ (nT : Int) (kT : Nat → Int) (dT : Nat → Int) (mT : Nat → Int) (x1 : Int) (x2 : Int) (s0 : Int), wp_X3_grow_42 nT kT dT mT x1 x2 s0 Q → V p l e rm_X3_grow s m args below meth c D A 6 0 0 (MQ below (QI D A (W1_X3_grow t hT kTA dTA mTA) (po_X3_grow Q)) args s 0 0 A) 42 [(0, .ref hT), (1, .int (iI x1)), (2, .int (iI x2))] [.int (iI s0)] [oB hT 3 [.ref kTA, .ref dTA, .ref mTA, .int (iI nT)], aI t kTA 120 kT, aI t dTA 120 dT, aZ t mTA 120 mT] := by
    intro nT kT dT mT x1 x2 s0 hv
    unfold wp_X3_grow_42 at hv
    refine V_istore_n hc dX3_grow_42 [(3, .int (iI s0)), (0, .ref hT), (1, .int (iI x1)), (2, .int (iI x2))] (by decide) rfl ?_
    refine V_aload_n hc dX3_grow_43 1 rfl ?_
    refine V_get (C := RX3) (T := TX3) (N := 4) hc i_X3_grow_3 0 rfl rfl 1 (by decide) m_X3_grow_15 rfl dX3_grow_44 ?_
    refine V_iload_n hc dX3_grow_47 2 rfl ?_
    refine V_iald hc 2 rfl (by decide) hv dX3_grow_48 (fun hv => ?_)
    refine V_iconst hc dX3_grow_49 ?_
    refine V_iadd hc dX3_grow_50 ?_
    refine V_istore hc dX3_grow_51 [(4, .int (iI ((dT x1.toNat) + 1))), (3, .int (iI s0)), (0, .ref hT), (1, .int (iI x1)), (2, .int (iI x2))] (by decide) rfl ?_
    refine V_lv [2, 4, 1, 0] [(0, .ref hT), (2, .int (iI x2)), (3, .int (iI s0)), (4, .int (iI ((dT x1.toNat) + 1)))] rfl ?_
    exact C_53 nT kT dT mT x2 s0 ((dT x1.toNat) + 1) hv
  refine V_lv [0, 1, 2] [(0, .ref hT), (1, .int (iI x1)), (2, .int (iI x2))] rfl ?_
  unfold wp_X3_grow at hv
  refine V_aload_n hc dX3_grow_0 0 rfl ?_
  refine V_get (C := RX3) (T := TX3) (N := 4) hc i_X3_grow_3 0 rfl rfl 3 (by decide) m_X3_grow_22 rfl dX3_grow_1 ?_
  refine V_bipush hc dX3_grow_4 (by decide) ?_
  refine V_icmp_lt (tgt := 11) hc dX3_grow_6 (by decide) ⟨hv.1, by decide, hv.2⟩ (fun hv => ?_) (fun hv => ?_)
  · refine V_iconst hc dX3_grow_11 ?_
    refine V_istore_n hc dX3_grow_12 [(3, .int (iI 0)), (0, .ref hT), (1, .int (iI x1)), (2, .int (iI x2))] (by decide) rfl ?_
    refine V_iconst hc dX3_grow_13 ?_
    refine V_istore hc dX3_grow_14 [(4, .int (iI 1)), (3, .int (iI 0)), (0, .ref hT), (1, .int (iI x1)), (2, .int (iI x2))] (by decide) rfl ?_
    refine V_iload_n hc dX3_grow_16 3 rfl ?_
    refine V_iconst hc dX3_grow_17 ?_
    refine V_icmp_eq (tgt := 53) hc dX3_grow_18 (by decide) ⟨hv.1, by decide, hv.2⟩ (fun hv => ?_) (fun hv => ?_)
    · refine V_lv [2, 4, 1, 0] [(0, .ref hT), (2, .int (iI x2)), (3, .int (iI 0)), (4, .int (iI 1))] rfl ?_
      exact C_53 nT kT dT mT x2 0 1 hv
    · refine V_iload_n hc dX3_grow_21 4 rfl ?_
      refine V_aload_n hc dX3_grow_22 2 rfl ?_
      refine V_get (C := RX3) (T := TX3) (N := 4) hc i_X3_grow_3 0 rfl rfl 0 (by decide) m_X3_grow_9 rfl dX3_grow_23 ?_
      refine V_iload_n hc dX3_grow_26 3 rfl ?_
      refine V_iald hc 1 rfl (by decide) hv dX3_grow_27 (fun hv => ?_)
      refine V_icmp_ge (tgt := 37) hc dX3_grow_28 (by decide) hv (fun hv => ?_) (fun hv => ?_)
      · refine V_aload_n hc dX3_grow_37 2 rfl ?_
        refine V_iload_n hc dX3_grow_38 3 rfl ?_
        refine V_callVI (As := [.int (iI x1)]) hc (wc := [oB hT 3 [.ref kTA, .ref dTA, .ref mTA, .int (iI nT)], aI t kTA 120 kT, aI t dTA 120 dT, aZ t mTA 120 mT]) (wr := []) (pmI (ws := [oB hT 3 [.ref kTA, .ref dTA, .ref mTA, .int (iI nT)], aI t kTA 120 kT, aI t dTA 120 dT, aZ t mTA 120 mT]) (ws1 := [oB hT 3 [.ref kTA, .ref dTA, .ref mTA, .int (iI nT)], aI t kTA 120 kT, aI t dTA 120 dT, aZ t mTA 120 mT] ++ []) [0, 1, 2, 3] 4 rfl (by decide +kernel) rfl) rfl rfl (met_X3_subtreeEnd l D t hT kTA dTA mTA nT kT dT mT x1 _ hv) rfl gX3_grow_X3_subtreeEnd rfl ⟨rfl, rfl⟩ ok_X3_subtreeEnd (by decide) (Nat.le_of_ble_eq_true rfl) dX3_grow_39 (by decide) (fun r_1 _ hv => ?_)
        try dsimp only at hv
        refine V_perm (ws1 := [oB hT 3 [.ref kTA, .ref dTA, .ref mTA, .int (iI nT)], aI t kTA 120 kT, aI t dTA 120 dT, aZ t mTA 120 mT]) (pmI (ws := [oB hT 3 [.ref kTA, .ref dTA, .ref mTA, .int (iI nT)], aI t kTA 120 kT, aI t dTA 120 dT, aZ t mTA 120 mT] ++ []) (ws1 := [oB hT 3 [.ref kTA, .ref dTA, .ref mTA, .int (iI nT)], aI t kTA 120 kT, aI t dTA 120 dT, aZ t mTA 120 mT]) [0, 1, 2, 3] 4 rfl (by decide +kernel) rfl) ?_
        refine V_lv [2, 3, 4] [(0, .ref hT), (1, .int (iI x1)), (2, .int (iI x2))] rfl ?_
        exact C_42 nT kT dT mT x1 x2 r_1 hv
      · refine V_iload_n hc dX3_grow_31 3 rfl ?_
        refine V_iconst hc dX3_grow_32 ?_
        refine V_iadd hc dX3_grow_33 ?_
        refine V_goto (tgt := 42) hc dX3_grow_34 (by decide) ?_
        refine V_lv [2, 3, 4] [(0, .ref hT), (1, .int (iI x1)), (2, .int (iI x2))] rfl ?_
        exact C_42 nT kT dT mT x1 x2 (x1 + 1) hv
  · refine V_iconst hc dX3_grow_9 ?_
    exact V_zret hc hr (nT, kT, dT, mT) ⟨by decide, hv⟩ rfl dX3_grow_10
abbrev W1_X3_changeBy (t : Nat → ClassId) (hT : Nat) (kTA : Nat) (dTA : Nat) (mTA : Nat) (u : (Int) × (Nat → Int) × (Nat → Int) × (Nat → Int)) : va_W := [oB hT 3 [.ref kTA, .ref dTA, .ref mTA, .int (iI u.1)], aI t kTA 120 u.2.1, aI t dTA 120 u.2.2.1, aZ t mTA 120 u.2.2.2]
abbrev po_X3_changeBy (Q : Int → (Int) → (Nat → Int) → (Nat → Int) → (Nat → Int) → Prop) (r : Int) (u : (Int) × (Nat → Int) × (Nat → Int) × (Nat → Int)) : Prop := Q r u.1 u.2.1 u.2.2.1 u.2.2.2
abbrev rm_X3_changeBy : Room := { frames := 2, cells := 0, slots := 0, locals := 85 }
def wp_X3_changeBy_43 (nT : Int) (kT : Nat → Int) (dT : Nat → Int) (mT : Nat → Int) (x2 : Int) (x3 : Int) (x4 : Int) (Q : Int → (Int) → (Nat → Int) → (Nat → Int) → (Nat → Int) → Prop) : Prop := inR x2 ∧ (x2 ≠ 0 → Q 0 nT kT dT mT) ∧ (¬ (x2 ≠ 0) → wp_X3_grow nT kT dT mT x4 x3 (fun r_2 nT_2 kT_2 dT_2 mT_2 => inR r_2 ∧ (r_2 = 0 → Q 0 nT_2 kT_2 dT_2 mT_2) ∧ (¬ (r_2 = 0) → Q 1 nT_2 kT_2 dT_2 mT_2)))
def wp_X3_changeBy_12 (nT : Int) (kT : Nat → Int) (dT : Nat → Int) (mT : Nat → Int) (x1 : Int) (s0 : Int) (Q : Int → (Int) → (Nat → Int) → (Nat → Int) → (Nat → Int) → Prop) : Prop := (0 ≤ x1 ∧ x1 ≤ 2147483647) ∧ wp_X3_lastVisited nT kT (x1 % 500) (fun r_1 => inR r_1 ∧ (r_1 = (-1) → wp_X3_changeBy_43 nT kT dT mT s0 (x1 % 500) r_1 Q) ∧ (¬ (r_1 = (-1)) → (0 ≤ r_1 ∧ r_1 < 120) ∧ inR (kT r_1.toNat) ∧ inR (x1 % 500) ∧ (kT r_1.toNat = x1 % 500 → (0 ≤ r_1 ∧ r_1 < 120) ∧ inR (mT r_1.toNat) ∧ inR s0 ∧ (mT r_1.toNat = s0 → (0 ≤ r_1 ∧ r_1 < 120) ∧ (s0 = 0 ∨ s0 = 1) ∧ Q 0 nT kT dT (uI mT (r_1.toNat) s0)) ∧ (¬ (mT r_1.toNat = s0) → (0 ≤ r_1 ∧ r_1 < 120) ∧ (s0 = 0 ∨ s0 = 1) ∧ Q 1 nT kT dT (uI mT (r_1.toNat) s0))) ∧ (¬ (kT r_1.toNat = x1 % 500) → wp_X3_changeBy_43 nT kT dT mT s0 (x1 % 500) r_1 Q)))
def wp_X3_changeBy (nT : Int) (kT : Nat → Int) (dT : Nat → Int) (mT : Nat → Int) (x1 : Int) (Q : Int → (Int) → (Nat → Int) → (Nat → Int) → (Nat → Int) → Prop) : Prop := inR x1 ∧ (x1 < 500 → wp_X3_changeBy_12 nT kT dT mT x1 0 Q) ∧ (¬ (x1 < 500) → wp_X3_changeBy_12 nT kT dT mT x1 1 Q)
theorem m_X3_changeBy_9 : Cond.fieldLink RX3 9 "BackgroundRebuild$Tree" "keys" "[I" ∈ wsX3_changeBy := by decide +kernel
theorem m_X3_changeBy_18 : Cond.fieldLink RX3 18 "BackgroundRebuild$Tree" "marks" "[Z" ∈ wsX3_changeBy := by decide +kernel
theorem i_X3_changeBy_3 : ∀ w ∈ u_ws RX3 TX3 4, w ∈ wsX3_changeBy := by decide +kernel
theorem ok_X3_changeBy : yX3_changeBy.cls = RX3 ∧ yX3_changeBy.cls ≠ "java/lang/invoke/MethodHandle" ∧ yX3_changeBy.cls ≠ "java/lang/invoke/VarHandle" ∧ (parseMethodDescriptor yX3_changeBy.desc).map (fun d => d.parameters.length) = some 1 := by decide +kernel
set_option maxHeartbeats 4000000 in
set_option maxRecDepth 100000 in
theorem met_X3_changeBy (l : Launch) (D : va_G) (t : Nat → ClassId) (hT : Nat) (kTA : Nat) (dTA : Nat) (mTA : Nat) (nT : Int) (kT : Nat → Int) (dT : Nat → Int) (mT : Nat → Int) (x1 : Int) (Q : Int → (Int) → (Nat → Int) → (Nat → Int) → (Nat → Int) → Prop) (hv : wp_X3_changeBy nT kT dT mT x1 Q) : MI l D t yX3_changeBy wsX3_changeBy rm_X3_changeBy [.ref hT, .int (iI x1)] [oB hT 3 [.ref kTA, .ref dTA, .ref mTA, .int (iI nT)], aI t kTA 120 kT, aI t dTA 120 dT, aZ t mTA 120 mT] (W1_X3_changeBy t hT kTA dTA mTA) (po_X3_changeBy Q) 0 0 := by
  refine M_ofz (cc := cX3_changeBy) (nL := 6) (by decide) rfl (Nat.le_of_ble_eq_true rfl) ?_
  intro p e s m args below meth c A hc hr
  have C_43 : ∀ (nT : Int) (kT : Nat → Int) (dT : Nat → Int) (mT : Nat → Int) (x2 : Int) (x3 : Int) (x4 : Int), wp_X3_changeBy_43 nT kT dT mT x2 x3 x4 Q → V p l e rm_X3_changeBy s m args below meth c D A 6 0 0 (MQ below (QI D A (W1_X3_changeBy t hT kTA dTA mTA) (po_X3_changeBy Q)) args s 0 0 A) 43 [(0, .ref hT), (2, .int (iI x2)), (3, .int (iI x3)), (4, .int (iI x4))] [] [oB hT 3 [.ref kTA, .ref dTA, .ref mTA, .int (iI nT)], aI t kTA 120 kT, aI t dTA 120 dT, aZ t mTA 120 mT] := by
    intro nT kT dT mT x2 x3 x4 hv
    unfold wp_X3_changeBy_43 at hv
    refine V_iload_n hc dX3_changeBy_43 1 rfl ?_
    refine V_if_ne (tgt := 61) hc dX3_changeBy_44 (by decide) hv (fun hv => ?_) (fun hv => ?_)
    · refine V_iconst hc dX3_changeBy_61 ?_
      exact V_zret hc hr (nT, kT, dT, mT) ⟨by decide, hv⟩ rfl dX3_changeBy_62
    · refine V_aload_n hc dX3_changeBy_47 0 rfl ?_
      refine V_iload hc dX3_changeBy_48 3 rfl ?_
      refine V_iload_n hc dX3_changeBy_50 2 rfl ?_
      refine V_callVI (As := [.int (iI x4), .int (iI x3)]) hc (wc := [oB hT 3 [.ref kTA, .ref dTA, .ref mTA, .int (iI nT)], aI t kTA 120 kT, aI t dTA 120 dT, aZ t mTA 120 mT]) (wr := []) (pmI (ws := [oB hT 3 [.ref kTA, .ref dTA, .ref mTA, .int (iI nT)], aI t kTA 120 kT, aI t dTA 120 dT, aZ t mTA 120 mT]) (ws1 := [oB hT 3 [.ref kTA, .ref dTA, .ref mTA, .int (iI nT)], aI t kTA 120 kT, aI t dTA 120 dT, aZ t mTA 120 mT] ++ []) [0, 1, 2, 3] 4 rfl (by decide +kernel) rfl) rfl rfl (met_X3_grow l D t hT kTA dTA mTA nT kT dT mT x4 x3 _ hv) rfl gX3_changeBy_X3_grow rfl ⟨rfl, rfl⟩ ok_X3_grow (by decide) (Nat.le_of_ble_eq_true rfl) dX3_changeBy_51 (by decide) (fun r_2 u9 hv => ?_)
      obtain ⟨nT_2, kT_2, dT_2, mT_2⟩ := u9
      try dsimp only at hv
      refine V_perm (ws1 := [oB hT 3 [.ref kTA, .ref dTA, .ref mTA, .int (iI nT_2)], aI t kTA 120 kT_2, aI t dTA 120 dT_2, aZ t mTA 120 mT_2]) (pmI (ws := [oB hT 3 [.ref kTA, .ref dTA, .ref mTA, .int (iI nT_2)], aI t kTA 120 kT_2, aI t dTA 120 dT_2, aZ t mTA 120 mT_2] ++ []) (ws1 := [oB hT 3 [.ref kTA, .ref dTA, .ref mTA, .int (iI nT_2)], aI t kTA 120 kT_2, aI t dTA 120 dT_2, aZ t mTA 120 mT_2]) [0, 1, 2, 3] 4 rfl (by decide +kernel) rfl) ?_
      refine V_if_eq (tgt := 61) hc dX3_changeBy_54 (by decide) hv (fun hv => ?_) (fun hv => ?_)
      · refine V_iconst hc dX3_changeBy_61 ?_
        exact V_zret hc hr (nT_2, kT_2, dT_2, mT_2) ⟨by decide, hv⟩ rfl dX3_changeBy_62
      · refine V_iconst hc dX3_changeBy_57 ?_
        refine V_goto (tgt := 62) hc dX3_changeBy_58 (by decide) ?_
        exact V_zret hc hr (nT_2, kT_2, dT_2, mT_2) ⟨by decide, hv⟩ rfl dX3_changeBy_62
  have C_12 : ∀ (nT : Int) (kT : Nat → Int) (dT : Nat → Int) (mT : Nat → Int) (x1 : Int) (s0 : Int), wp_X3_changeBy_12 nT kT dT mT x1 s0 Q → V p l e rm_X3_changeBy s m args below meth c D A 6 0 0 (MQ below (QI D A (W1_X3_changeBy t hT kTA dTA mTA) (po_X3_changeBy Q)) args s 0 0 A) 12 [(0, .ref hT), (1, .int (iI x1))] [.int (iI s0)] [oB hT 3 [.ref kTA, .ref dTA, .ref mTA, .int (iI nT)], aI t kTA 120 kT, aI t dTA 120 dT, aZ t mTA 120 mT] := by
    intro nT kT dT mT x1 s0 hv
    unfold wp_X3_changeBy_12 at hv
    refine V_istore_n hc dX3_changeBy_12 [(2, .int (iI s0)), (0, .ref hT), (1, .int (iI x1))] (by decide) rfl ?_
    refine V_iload_n hc dX3_changeBy_13 2 rfl ?_
    refine V_sipush hc dX3_changeBy_14 (by decide) ?_
    refine V_irem hc dX3_changeBy_17 ⟨hv.1, by decide, hv.2⟩ (fun hv => ?_)
    refine V_istore_n hc dX3_changeBy_18 [(3, .int (iI (x1 % 500))), (2, .int (iI s0)), (0, .ref hT), (1, .int (iI x1))] (by decide) rfl ?_
    refine V_aload_n hc dX3_changeBy_19 2 rfl ?_
    refine V_iload_n hc dX3_changeBy_20 0 rfl ?_
    refine V_callVI (As := [.int (iI (x1 % 500))]) hc (wc := [oB hT 3 [.ref kTA, .ref dTA, .ref mTA, .int (iI nT)], aI t kTA 120 kT, aI t dTA 120 dT, aZ t mTA 120 mT]) (wr := []) (pmI (ws := [oB hT 3 [.ref kTA, .ref dTA, .ref mTA, .int (iI nT)], aI t kTA 120 kT, aI t dTA 120 dT, aZ t mTA 120 mT]) (ws1 := [oB hT 3 [.ref kTA, .ref dTA, .ref mTA, .int (iI nT)], aI t kTA 120 kT, aI t dTA 120 dT, aZ t mTA 120 mT] ++ []) [0, 1, 2, 3] 4 rfl (by decide +kernel) rfl) rfl rfl (met_X3_lastVisited l D t hT kTA dTA mTA nT kT dT mT (x1 % 500) _ hv) rfl gX3_changeBy_X3_lastVisited rfl ⟨rfl, rfl⟩ ok_X3_lastVisited (by decide) (Nat.le_of_ble_eq_true rfl) dX3_changeBy_21 (by decide) (fun r_1 _ hv => ?_)
    try dsimp only at hv
    refine V_perm (ws1 := [oB hT 3 [.ref kTA, .ref dTA, .ref mTA, .int (iI nT)], aI t kTA 120 kT, aI t dTA 120 dT, aZ t mTA 120 mT]) (pmI (ws := [oB hT 3 [.ref kTA, .ref dTA, .ref mTA, .int (iI nT)], aI t kTA 120 kT, aI t dTA 120 dT, aZ t mTA 120 mT] ++ []) (ws1 := [oB hT 3 [.ref kTA, .ref dTA, .ref mTA, .int (iI nT)], aI t kTA 120 kT, aI t dTA 120 dT, aZ t mTA 120 mT]) [0, 1, 2, 3] 4 rfl (by decide +kernel) rfl) ?_
    refine V_istore hc dX3_changeBy_24 [(4, .int (iI r_1)), (3, .int (iI (x1 % 500))), (2, .int (iI s0)), (0, .ref hT), (1, .int (iI x1))] (by decide) rfl ?_
    refine V_iload hc dX3_changeBy_26 0 rfl ?_
    refine V_iconst hc dX3_changeBy_28 ?_
    refine V_icmp_eq (tgt := 43) hc dX3_changeBy_29 (by decide) ⟨hv.1, by decide, hv.2⟩ (fun hv => ?_) (fun hv => ?_)
    · refine V_lv [3, 2, 1, 0] [(0, .ref hT), (2, .int (iI s0)), (3, .int (iI (x1 % 500))), (4, .int (iI r_1))] rfl ?_
      exact C_43 nT kT dT mT s0 (x1 % 500) r_1 hv
    · refine V_aload_n hc dX3_changeBy_32 3 rfl ?_
      refine V_get (C := RX3) (T := TX3) (N := 4) hc i_X3_changeBy_3 0 rfl rfl 0 (by decide) m_X3_changeBy_9 rfl dX3_changeBy_33 ?_
      refine V_iload hc dX3_changeBy_36 0 rfl ?_
      refine V_iald hc 1 rfl (by decide) hv dX3_changeBy_38 (fun hv => ?_)
      refine V_iload_n hc dX3_changeBy_39 1 rfl ?_
      refine V_icmp_eq (tgt := 63) hc dX3_changeBy_40 (by decide) hv (fun hv => ?_) (fun hv => ?_)
      · refine V_aload_n hc dX3_changeBy_63 3 rfl ?_
        refine V_get (C := RX3) (T := TX3) (N := 4) hc i_X3_changeBy_3 0 rfl rfl 2 (by decide) m_X3_changeBy_18 rfl dX3_changeBy_64 ?_
        refine V_iload hc dX3_changeBy_67 0 rfl ?_
        refine V_zald hc 3 rfl (by decide) hv dX3_changeBy_69 (fun hv => ?_)
        refine V_iload_n hc dX3_changeBy_70 2 rfl ?_
        refine V_icmp_eq (tgt := 78) hc dX3_changeBy_71 (by decide) hv (fun hv => ?_) (fun hv => ?_)
        · refine V_iconst hc dX3_changeBy_78 ?_
          refine V_istore hc dX3_changeBy_79 [(5, .int (iI 0)), (4, .int (iI r_1)), (3, .int (iI (x1 % 500))), (2, .int (iI s0)), (0, .ref hT), (1, .int (iI x1))] (by decide) rfl ?_
          refine V_aload_n hc dX3_changeBy_81 4 rfl ?_
          refine V_get (C := RX3) (T := TX3) (N := 4) hc i_X3_changeBy_3 0 rfl rfl 2 (by decide) m_X3_changeBy_18 rfl dX3_changeBy_82 ?_
          refine V_iload hc dX3_changeBy_85 1 rfl ?_
          refine V_iload_n hc dX3_changeBy_87 3 rfl ?_
          refine V_zast hc 3 rfl (by decide) hv dX3_changeBy_88 [oB hT 3 [.ref kTA, .ref dTA, .ref mTA, .int (iI nT)], aI t kTA 120 kT, aI t dTA 120 dT, aZ t mTA 120 (uI mT (r_1.toNat) s0)] rfl (fun hv => ?_)
          refine V_iload hc dX3_changeBy_89 0 rfl ?_
          exact V_zret hc hr (nT, kT, dT, uI mT (r_1.toNat) s0) ⟨by decide, hv⟩ rfl dX3_changeBy_91
        · refine V_iconst hc dX3_changeBy_74 ?_
          refine V_goto (tgt := 79) hc dX3_changeBy_75 (by decide) ?_
          refine V_istore hc dX3_changeBy_79 [(5, .int (iI 1)), (4, .int (iI r_1)), (3, .int (iI (x1 % 500))), (2, .int (iI s0)), (0, .ref hT), (1, .int (iI x1))] (by decide) rfl ?_
          refine V_aload_n hc dX3_changeBy_81 4 rfl ?_
          refine V_get (C := RX3) (T := TX3) (N := 4) hc i_X3_changeBy_3 0 rfl rfl 2 (by decide) m_X3_changeBy_18 rfl dX3_changeBy_82 ?_
          refine V_iload hc dX3_changeBy_85 1 rfl ?_
          refine V_iload_n hc dX3_changeBy_87 3 rfl ?_
          refine V_zast hc 3 rfl (by decide) hv dX3_changeBy_88 [oB hT 3 [.ref kTA, .ref dTA, .ref mTA, .int (iI nT)], aI t kTA 120 kT, aI t dTA 120 dT, aZ t mTA 120 (uI mT (r_1.toNat) s0)] rfl (fun hv => ?_)
          refine V_iload hc dX3_changeBy_89 0 rfl ?_
          exact V_zret hc hr (nT, kT, dT, uI mT (r_1.toNat) s0) ⟨by decide, hv⟩ rfl dX3_changeBy_91
      · refine V_lv [3, 2, 1, 0] [(0, .ref hT), (2, .int (iI s0)), (3, .int (iI (x1 % 500))), (4, .int (iI r_1))] rfl ?_
        exact C_43 nT kT dT mT s0 (x1 % 500) r_1 hv
  refine V_lv [0, 1] [(0, .ref hT), (1, .int (iI x1))] rfl ?_
  unfold wp_X3_changeBy at hv
  refine V_iload_n hc dX3_changeBy_0 1 rfl ?_
  refine V_sipush hc dX3_changeBy_1 (by decide) ?_
  refine V_icmp_lt (tgt := 11) hc dX3_changeBy_4 (by decide) ⟨hv.1, by decide, hv.2⟩ (fun hv => ?_) (fun hv => ?_)
  · refine V_iconst hc dX3_changeBy_11 ?_
    exact C_12 nT kT dT mT x1 0 hv
  · refine V_iconst hc dX3_changeBy_7 ?_
    refine V_goto (tgt := 12) hc dX3_changeBy_8 (by decide) ?_
    exact C_12 nT kT dT mT x1 1 hv
abbrev W1_X3_presentBetween (t : Nat → ClassId) (hT : Nat) (kTA : Nat) (dTA : Nat) (mTA : Nat) (nT : Int) (kT : Nat → Int) (dT : Nat → Int) (mT : Nat → Int) (u : Unit) : va_W := [oB hT 3 [.ref kTA, .ref dTA, .ref mTA, .int (iI nT)], aI t kTA 120 kT, aI t dTA 120 dT, aZ t mTA 120 mT]
abbrev po_X3_presentBetween (Q : Int → Prop) (r : Int) (u : Unit) : Prop := Q r
abbrev rm_X3_presentBetween : Room := { frames := 0, cells := 0, slots := 0, locals := 0 }
def wp_X3_presentBetween_5 (mT : Nat → Int) (x2 : Int) (Q : Int → Prop) (K_5 : Int → Int → Prop) (x3 : Int) (x4 : Int) : Prop := inR x4 ∧ inR x2 ∧ (x4 ≥ x2 → Q x3) ∧ (¬ (x4 ≥ x2) → (0 ≤ x4 ∧ x4 < 120) ∧ inR (mT x4.toNat) ∧ (mT x4.toNat ≠ 0 → K_5 x3 (x4 + 1)) ∧ (¬ (mT x4.toNat ≠ 0) → K_5 (x3 + 1) (x4 + 1)))
def wp_X3_presentBetween (mT : Nat → Int) (x1 : Int) (x2 : Int) (Q : Int → Prop) : Prop := (∃ n, lq2 (wp_X3_presentBetween_5 mT x2 Q) n 0 x1)
theorem m_X3_presentBetween_18 : Cond.fieldLink RX3 18 "BackgroundRebuild$Tree" "marks" "[Z" ∈ wsX3_presentBetween := by decide +kernel
theorem i_X3_presentBetween_3 : ∀ w ∈ u_ws RX3 TX3 4, w ∈ wsX3_presentBetween := by decide +kernel
theorem ok_X3_presentBetween : yX3_presentBetween.cls = RX3 ∧ yX3_presentBetween.cls ≠ "java/lang/invoke/MethodHandle" ∧ yX3_presentBetween.cls ≠ "java/lang/invoke/VarHandle" ∧ (parseMethodDescriptor yX3_presentBetween.desc).map (fun d => d.parameters.length) = some 2 := by decide +kernel
set_option maxHeartbeats 4000000 in
set_option maxRecDepth 100000 in
theorem met_X3_presentBetween (l : Launch) (D : va_G) (t : Nat → ClassId) (hT : Nat) (kTA : Nat) (dTA : Nat) (mTA : Nat) (nT : Int) (kT : Nat → Int) (dT : Nat → Int) (mT : Nat → Int) (x1 : Int) (x2 : Int) (Q : Int → Prop) (hv : wp_X3_presentBetween mT x1 x2 Q) : MI l D t yX3_presentBetween wsX3_presentBetween rm_X3_presentBetween [.ref hT, .int (iI x1), .int (iI x2)] [oB hT 3 [.ref kTA, .ref dTA, .ref mTA, .int (iI nT)], aI t kTA 120 kT, aI t dTA 120 dT, aZ t mTA 120 mT] (W1_X3_presentBetween t hT kTA dTA mTA nT kT dT mT) (po_X3_presentBetween Q) 0 0 := by
  refine M_ofi (cc := cX3_presentBetween) (nL := 5) (by decide) rfl (Nat.le_of_ble_eq_true rfl) ?_
  intro p e s m args below meth c A hc hr
  have L_5 : ∀ (mT : Nat → Int) (x2 : Int) (n9 : Nat) (x3 : Int) (x4 : Int), lq2 (wp_X3_presentBetween_5 mT x2 Q) n9 x3 x4 → V p l e rm_X3_presentBetween s m args below meth c D A 5 0 0 (MQ below (QI D A (W1_X3_presentBetween t hT kTA dTA mTA nT kT dT mT) (po_X3_presentBetween Q)) args s 0 0 A) 5 [(0, .ref hT), (2, .int (iI x2)), (3, .int (iI x3)), (4, .int (iI x4))] [] [oB hT 3 [.ref kTA, .ref dTA, .ref mTA, .int (iI nT)], aI t kTA 120 kT, aI t dTA 120 dT, aZ t mTA 120 mT] := by
    intro mT x2 n9
    induction n9 with
    | zero =>
      intro x3 x4 hv
      exact hv.elim
    | succ n9 ih =>
      intro x3 x4 hv
      have hv : wp_X3_presentBetween_5 mT x2 Q (lq2 (wp_X3_presentBetween_5 mT x2 Q) n9) x3 x4 := hv
      generalize lq2 (wp_X3_presentBetween_5 mT x2 Q) n9 = K_5 at hv ih
      have hK_5 := ih
      unfold wp_X3_presentBetween_5 at hv
      refine V_iload hc dX3_presentBetween_5 3 rfl ?_
      refine V_iload_n hc dX3_presentBetween_7 1 rfl ?_
      refine V_icmp_ge (tgt := 30) hc dX3_presentBetween_8 (by decide) hv (fun hv => ?_) (fun hv => ?_)
      · refine V_iload_n hc dX3_presentBetween_30 2 rfl ?_
        exact V_iret hc hr () hv rfl dX3_presentBetween_31
      · refine V_aload_n hc dX3_presentBetween_11 0 rfl ?_
        refine V_get (C := RX3) (T := TX3) (N := 4) hc i_X3_presentBetween_3 0 rfl rfl 2 (by decide) m_X3_presentBetween_18 rfl dX3_presentBetween_12 ?_
        refine V_iload hc dX3_presentBetween_15 3 rfl ?_
        refine V_zald hc 3 rfl (by decide) hv dX3_presentBetween_17 (fun hv => ?_)
        refine V_if_ne (tgt := 24) hc dX3_presentBetween_18 (by decide) hv (fun hv => ?_) (fun hv => ?_)
        · refine V_iinc hc dX3_presentBetween_24 3 rfl [(4, .int (iI (x4 + 1))), (0, .ref hT), (2, .int (iI x2)), (3, .int (iI x3))] (by decide) rfl ?_
          refine V_goto (tgt := 5) hc dX3_presentBetween_27 (by decide) ?_
          refine V_lv [1, 2, 3, 0] [(0, .ref hT), (2, .int (iI x2)), (3, .int (iI x3)), (4, .int (iI (x4 + 1)))] rfl ?_
          exact hK_5 x3 (x4 + 1) hv
        · refine V_iinc hc dX3_presentBetween_21 2 rfl [(3, .int (iI (x3 + 1))), (0, .ref hT), (2, .int (iI x2)), (4, .int (iI x4))] (by decide) rfl ?_
          refine V_iinc hc dX3_presentBetween_24 3 rfl [(4, .int (iI (x4 + 1))), (3, .int (iI (x3 + 1))), (0, .ref hT), (2, .int (iI x2))] (by decide) rfl ?_
          refine V_goto (tgt := 5) hc dX3_presentBetween_27 (by decide) ?_
          refine V_lv [2, 3, 1, 0] [(0, .ref hT), (2, .int (iI x2)), (3, .int (iI (x3 + 1))), (4, .int (iI (x4 + 1)))] rfl ?_
          exact hK_5 (x3 + 1) (x4 + 1) hv
  refine V_lv [0, 1, 2] [(0, .ref hT), (1, .int (iI x1)), (2, .int (iI x2))] rfl ?_
  unfold wp_X3_presentBetween at hv
  refine V_iconst hc dX3_presentBetween_0 ?_
  refine V_istore_n hc dX3_presentBetween_1 [(3, .int (iI 0)), (0, .ref hT), (1, .int (iI x1)), (2, .int (iI x2))] (by decide) rfl ?_
  refine V_iload_n hc dX3_presentBetween_2 2 rfl ?_
  refine V_istore hc dX3_presentBetween_3 [(4, .int (iI x1)), (3, .int (iI 0)), (0, .ref hT), (1, .int (iI x1)), (2, .int (iI x2))] (by decide) rfl ?_
  refine V_lv [2, 4, 1, 0] [(0, .ref hT), (2, .int (iI x2)), (3, .int (iI 0)), (4, .int (iI x1))] rfl ?_
  obtain ⟨n9, hv⟩ := hv
  exact L_5 mT x2 n9 0 x1 hv
abbrev W1_X3_numberOfNode (t : Nat → ClassId) (hT : Nat) (kTA : Nat) (dTA : Nat) (mTA : Nat) (nT : Int) (kT : Nat → Int) (dT : Nat → Int) (mT : Nat → Int) (u : Unit) : va_W := [oB hT 3 [.ref kTA, .ref dTA, .ref mTA, .int (iI nT)], aI t kTA 120 kT, aI t dTA 120 dT, aZ t mTA 120 mT]
abbrev po_X3_numberOfNode (Q : Int → Prop) (r : Int) (u : Unit) : Prop := Q r
abbrev rm_X3_numberOfNode : Room := { frames := 1, cells := 0, slots := 0, locals := 24 }
def wp_X3_numberOfNode (nT : Int) (kT : Nat → Int) (dT : Nat → Int) (mT : Nat → Int) (x1 : Int) (x2 : Int) (Q : Int → Prop) : Prop := inR x2 ∧ (x2 = 0 → (0 ≤ x1 ∧ x1 < 120) ∧ Q (kT x1.toNat)) ∧ (x2 = 1 → (0 ≤ x1 ∧ x1 < 120) ∧ inR (mT x1.toNat) ∧ (mT x1.toNat = 0 → Q 0) ∧ (¬ (mT x1.toNat = 0) → Q 1)) ∧ (x2 = 2 → (0 ≤ x1 ∧ x1 < 120) ∧ Q (dT x1.toNat)) ∧ (x2 = 3 → wp_X3_subtreeEnd nT dT x1 (fun r_1 => Q (r_1 - x1))) ∧ (x2 < 0 ∨ 3 < x2 → wp_X3_subtreeEnd nT dT x1 (fun r_2 => wp_X3_presentBetween mT x1 r_2 (fun r_3 => Q r_3)))
theorem m_X3_numberOfNode_9 : Cond.fieldLink RX3 9 "BackgroundRebuild$Tree" "keys" "[I" ∈ wsX3_numberOfNode := by decide +kernel
theorem m_X3_numberOfNode_18 : Cond.fieldLink RX3 18 "BackgroundRebuild$Tree" "marks" "[Z" ∈ wsX3_numberOfNode := by decide +kernel
theorem m_X3_numberOfNode_15 : Cond.fieldLink RX3 15 "BackgroundRebuild$Tree" "depths" "[I" ∈ wsX3_numberOfNode := by decide +kernel
theorem i_X3_numberOfNode_3 : ∀ w ∈ u_ws RX3 TX3 4, w ∈ wsX3_numberOfNode := by decide +kernel
theorem ok_X3_numberOfNode : yX3_numberOfNode.cls = RX3 ∧ yX3_numberOfNode.cls ≠ "java/lang/invoke/MethodHandle" ∧ yX3_numberOfNode.cls ≠ "java/lang/invoke/VarHandle" ∧ (parseMethodDescriptor yX3_numberOfNode.desc).map (fun d => d.parameters.length) = some 2 := by decide +kernel
set_option maxHeartbeats 4000000 in
set_option maxRecDepth 100000 in
theorem met_X3_numberOfNode (l : Launch) (D : va_G) (t : Nat → ClassId) (hT : Nat) (kTA : Nat) (dTA : Nat) (mTA : Nat) (nT : Int) (kT : Nat → Int) (dT : Nat → Int) (mT : Nat → Int) (x1 : Int) (x2 : Int) (Q : Int → Prop) (hv : wp_X3_numberOfNode nT kT dT mT x1 x2 Q) : MI l D t yX3_numberOfNode wsX3_numberOfNode rm_X3_numberOfNode [.ref hT, .int (iI x1), .int (iI x2)] [oB hT 3 [.ref kTA, .ref dTA, .ref mTA, .int (iI nT)], aI t kTA 120 kT, aI t dTA 120 dT, aZ t mTA 120 mT] (W1_X3_numberOfNode t hT kTA dTA mTA nT kT dT mT) (po_X3_numberOfNode Q) 0 0 := by
  refine M_ofi (cc := cX3_numberOfNode) (nL := 3) (by decide) rfl (Nat.le_of_ble_eq_true rfl) ?_
  intro p e s m args below meth c A hc hr
  refine V_lv [0, 1, 2] [(0, .ref hT), (1, .int (iI x1)), (2, .int (iI x2))] rfl ?_
  unfold wp_X3_numberOfNode at hv
  refine V_iload_n hc dX3_numberOfNode_0 2 rfl ?_
  obtain ⟨hr9, hs0, hs1, hs2, hs3, hsd⟩ := hv
  by_cases e0 : x2 = 0
  · have hv := hs0 e0
    refine V_tableIn (off := 31) (tgt := 32) hc dX3_numberOfNode_1 hr9 (by omega) (by omega) (by rw [e0]; rfl) (by decide) ?_
    refine V_aload_n hc dX3_numberOfNode_32 0 rfl ?_
    refine V_get (C := RX3) (T := TX3) (N := 4) hc i_X3_numberOfNode_3 0 rfl rfl 0 (by decide) m_X3_numberOfNode_9 rfl dX3_numberOfNode_33 ?_
    refine V_iload_n hc dX3_numberOfNode_36 1 rfl ?_
    refine V_iald hc 1 rfl (by decide) hv dX3_numberOfNode_37 (fun hv => ?_)
    exact V_iret hc hr () hv rfl dX3_numberOfNode_38
  by_cases e1 : x2 = 1
  · have hv := hs1 e1
    refine V_tableIn (off := 38) (tgt := 39) hc dX3_numberOfNode_1 hr9 (by omega) (by omega) (by rw [e1]; rfl) (by decide) ?_
    refine V_aload_n hc dX3_numberOfNode_39 0 rfl ?_
    refine V_get (C := RX3) (T := TX3) (N := 4) hc i_X3_numberOfNode_3 0 rfl rfl 2 (by decide) m_X3_numberOfNode_18 rfl dX3_numberOfNode_40 ?_
    refine V_iload_n hc dX3_numberOfNode_43 1 rfl ?_
    refine V_zald hc 3 rfl (by decide) hv dX3_numberOfNode_44 (fun hv => ?_)
    refine V_if_eq (tgt := 52) hc dX3_numberOfNode_45 (by decide) hv (fun hv => ?_) (fun hv => ?_)
    · refine V_iconst hc dX3_numberOfNode_52 ?_
      exact V_iret hc hr () hv rfl dX3_numberOfNode_53
    · refine V_iconst hc dX3_numberOfNode_48 ?_
      refine V_goto (tgt := 53) hc dX3_numberOfNode_49 (by decide) ?_
      exact V_iret hc hr () hv rfl dX3_numberOfNode_53
  by_cases e2 : x2 = 2
  · have hv := hs2 e2
    refine V_tableIn (off := 53) (tgt := 54) hc dX3_numberOfNode_1 hr9 (by omega) (by omega) (by rw [e2]; rfl) (by decide) ?_
    refine V_aload_n hc dX3_numberOfNode_54 0 rfl ?_
    refine V_get (C := RX3) (T := TX3) (N := 4) hc i_X3_numberOfNode_3 0 rfl rfl 1 (by decide) m_X3_numberOfNode_15 rfl dX3_numberOfNode_55 ?_
    refine V_iload_n hc dX3_numberOfNode_58 1 rfl ?_
    refine V_iald hc 2 rfl (by decide) hv dX3_numberOfNode_59 (fun hv => ?_)
    exact V_iret hc hr () hv rfl dX3_numberOfNode_60
  by_cases e3 : x2 = 3
  · have hv := hs3 e3
    refine V_tableIn (off := 60) (tgt := 61) hc dX3_numberOfNode_1 hr9 (by omega) (by omega) (by rw [e3]; rfl) (by decide) ?_
    refine V_aload_n hc dX3_numberOfNode_61 0 rfl ?_
    refine V_iload_n hc dX3_numberOfNode_62 1 rfl ?_
    refine V_callVI (As := [.int (iI x1)]) hc (wc := [oB hT 3 [.ref kTA, .ref dTA, .ref mTA, .int (iI nT)], aI t kTA 120 kT, aI t dTA 120 dT, aZ t mTA 120 mT]) (wr := []) (pmI (ws := [oB hT 3 [.ref kTA, .ref dTA, .ref mTA, .int (iI nT)], aI t kTA 120 kT, aI t dTA 120 dT, aZ t mTA 120 mT]) (ws1 := [oB hT 3 [.ref kTA, .ref dTA, .ref mTA, .int (iI nT)], aI t kTA 120 kT, aI t dTA 120 dT, aZ t mTA 120 mT] ++ []) [0, 1, 2, 3] 4 rfl (by decide +kernel) rfl) rfl rfl (met_X3_subtreeEnd l D t hT kTA dTA mTA nT kT dT mT x1 _ hv) rfl gX3_numberOfNode_X3_subtreeEnd rfl ⟨rfl, rfl⟩ ok_X3_subtreeEnd (by decide) (Nat.le_of_ble_eq_true rfl) dX3_numberOfNode_63 (by decide) (fun r_1 _ hv => ?_)
    try dsimp only at hv
    refine V_perm (ws1 := [oB hT 3 [.ref kTA, .ref dTA, .ref mTA, .int (iI nT)], aI t kTA 120 kT, aI t dTA 120 dT, aZ t mTA 120 mT]) (pmI (ws := [oB hT 3 [.ref kTA, .ref dTA, .ref mTA, .int (iI nT)], aI t kTA 120 kT, aI t dTA 120 dT, aZ t mTA 120 mT] ++ []) (ws1 := [oB hT 3 [.ref kTA, .ref dTA, .ref mTA, .int (iI nT)], aI t kTA 120 kT, aI t dTA 120 dT, aZ t mTA 120 mT]) [0, 1, 2, 3] 4 rfl (by decide +kernel) rfl) ?_
    refine V_iload_n hc dX3_numberOfNode_66 1 rfl ?_
    refine V_isub hc dX3_numberOfNode_67 ?_
    exact V_iret hc hr () hv rfl dX3_numberOfNode_68
  have hv := hsd (by omega)
  refine V_tableOut (tgt := 69) hc dX3_numberOfNode_1 hr9 (by omega) (by decide) ?_
  refine V_aload_n hc dX3_numberOfNode_69 0 rfl ?_
  refine V_iload_n hc dX3_numberOfNode_70 1 rfl ?_
  refine V_aload_n hc dX3_numberOfNode_71 0 rfl ?_
  refine V_iload_n hc dX3_numberOfNode_72 1 rfl ?_
  refine V_callVI (As := [.int (iI x1)]) hc (wc := [oB hT 3 [.ref kTA, .ref dTA, .ref mTA, .int (iI nT)], aI t kTA 120 kT, aI t dTA 120 dT, aZ t mTA 120 mT]) (wr := []) (pmI (ws := [oB hT 3 [.ref kTA, .ref dTA, .ref mTA, .int (iI nT)], aI t kTA 120 kT, aI t dTA 120 dT, aZ t mTA 120 mT]) (ws1 := [oB hT 3 [.ref kTA, .ref dTA, .ref mTA, .int (iI nT)], aI t kTA 120 kT, aI t dTA 120 dT, aZ t mTA 120 mT] ++ []) [0, 1, 2, 3] 4 rfl (by decide +kernel) rfl) rfl rfl (met_X3_subtreeEnd l D t hT kTA dTA mTA nT kT dT mT x1 _ hv) rfl gX3_numberOfNode_X3_subtreeEnd rfl ⟨rfl, rfl⟩ ok_X3_subtreeEnd (by decide) (Nat.le_of_ble_eq_true rfl) dX3_numberOfNode_73 (by decide) (fun r_2 _ hv => ?_)
  try dsimp only at hv
  refine V_perm (ws1 := [oB hT 3 [.ref kTA, .ref dTA, .ref mTA, .int (iI nT)], aI t kTA 120 kT, aI t dTA 120 dT, aZ t mTA 120 mT]) (pmI (ws := [oB hT 3 [.ref kTA, .ref dTA, .ref mTA, .int (iI nT)], aI t kTA 120 kT, aI t dTA 120 dT, aZ t mTA 120 mT] ++ []) (ws1 := [oB hT 3 [.ref kTA, .ref dTA, .ref mTA, .int (iI nT)], aI t kTA 120 kT, aI t dTA 120 dT, aZ t mTA 120 mT]) [0, 1, 2, 3] 4 rfl (by decide +kernel) rfl) ?_
  refine V_callVI (As := [.int (iI x1), .int (iI r_2)]) hc (wc := [oB hT 3 [.ref kTA, .ref dTA, .ref mTA, .int (iI nT)], aI t kTA 120 kT, aI t dTA 120 dT, aZ t mTA 120 mT]) (wr := []) (pmI (ws := [oB hT 3 [.ref kTA, .ref dTA, .ref mTA, .int (iI nT)], aI t kTA 120 kT, aI t dTA 120 dT, aZ t mTA 120 mT]) (ws1 := [oB hT 3 [.ref kTA, .ref dTA, .ref mTA, .int (iI nT)], aI t kTA 120 kT, aI t dTA 120 dT, aZ t mTA 120 mT] ++ []) [0, 1, 2, 3] 4 rfl (by decide +kernel) rfl) rfl rfl (met_X3_presentBetween l D t hT kTA dTA mTA nT kT dT mT x1 r_2 _ hv) rfl gX3_numberOfNode_X3_presentBetween rfl ⟨rfl, rfl⟩ ok_X3_presentBetween (by decide) (Nat.le_of_ble_eq_true rfl) dX3_numberOfNode_76 (by decide) (fun r_3 _ hv => ?_)
  try dsimp only at hv
  refine V_perm (ws1 := [oB hT 3 [.ref kTA, .ref dTA, .ref mTA, .int (iI nT)], aI t kTA 120 kT, aI t dTA 120 dT, aZ t mTA 120 mT]) (pmI (ws := [oB hT 3 [.ref kTA, .ref dTA, .ref mTA, .int (iI nT)], aI t kTA 120 kT, aI t dTA 120 dT, aZ t mTA 120 mT] ++ []) (ws1 := [oB hT 3 [.ref kTA, .ref dTA, .ref mTA, .int (iI nT)], aI t kTA 120 kT, aI t dTA 120 dT, aZ t mTA 120 mT]) [0, 1, 2, 3] 4 rfl (by decide +kernel) rfl) ?_
  exact V_iret hc hr () hv rfl dX3_numberOfNode_79
abbrev W1_X3_presentKeys (t : Nat → ClassId) (hT : Nat) (kTA : Nat) (dTA : Nat) (mTA : Nat) (nT : Int) (kT : Nat → Int) (dT : Nat → Int) (mT : Nat → Int) (u : Unit) : va_W := [oB hT 3 [.ref kTA, .ref dTA, .ref mTA, .int (iI nT)], aI t kTA 120 kT, aI t dTA 120 dT, aZ t mTA 120 mT]
abbrev po_X3_presentKeys (Q : Int → Prop) (r : Int) (u : Unit) : Prop := Q r
abbrev rm_X3_presentKeys : Room := { frames := 1, cells := 0, slots := 0, locals := 24 }
def wp_X3_presentKeys (nT : Int) (mT : Nat → Int) (Q : Int → Prop) : Prop := wp_X3_presentBetween mT 0 nT (fun r_1 => Q r_1)
theorem m_X3_presentKeys_22 : Cond.fieldLink RX3 22 "BackgroundRebuild$Tree" "nodes" "I" ∈ wsX3_presentKeys := by decide +kernel
theorem i_X3_presentKeys_3 : ∀ w ∈ u_ws RX3 TX3 4, w ∈ wsX3_presentKeys := by decide +kernel
theorem ok_X3_presentKeys : yX3_presentKeys.cls = RX3 ∧ yX3_presentKeys.cls ≠ "java/lang/invoke/MethodHandle" ∧ yX3_presentKeys.cls ≠ "java/lang/invoke/VarHandle" ∧ (parseMethodDescriptor yX3_presentKeys.desc).map (fun d => d.parameters.length) = some 0 := by decide +kernel
set_option maxHeartbeats 4000000 in
set_option maxRecDepth 100000 in
theorem met_X3_presentKeys (l : Launch) (D : va_G) (t : Nat → ClassId) (hT : Nat) (kTA : Nat) (dTA : Nat) (mTA : Nat) (nT : Int) (kT : Nat → Int) (dT : Nat → Int) (mT : Nat → Int) (Q : Int → Prop) (hv : wp_X3_presentKeys nT mT Q) : MI l D t yX3_presentKeys wsX3_presentKeys rm_X3_presentKeys [.ref hT] [oB hT 3 [.ref kTA, .ref dTA, .ref mTA, .int (iI nT)], aI t kTA 120 kT, aI t dTA 120 dT, aZ t mTA 120 mT] (W1_X3_presentKeys t hT kTA dTA mTA nT kT dT mT) (po_X3_presentKeys Q) 0 0 := by
  refine M_ofi (cc := cX3_presentKeys) (nL := 1) (by decide) rfl (Nat.le_of_ble_eq_true rfl) ?_
  intro p e s m args below meth c A hc hr
  refine V_lv [0] [(0, .ref hT)] rfl ?_
  unfold wp_X3_presentKeys at hv
  refine V_aload_n hc dX3_presentKeys_0 0 rfl ?_
  refine V_iconst hc dX3_presentKeys_1 ?_
  refine V_aload_n hc dX3_presentKeys_2 0 rfl ?_
  refine V_get (C := RX3) (T := TX3) (N := 4) hc i_X3_presentKeys_3 0 rfl rfl 3 (by decide) m_X3_presentKeys_22 rfl dX3_presentKeys_3 ?_
  refine V_callVI (As := [.int (iI 0), .int (iI nT)]) hc (wc := [oB hT 3 [.ref kTA, .ref dTA, .ref mTA, .int (iI nT)], aI t kTA 120 kT, aI t dTA 120 dT, aZ t mTA 120 mT]) (wr := []) (pmI (ws := [oB hT 3 [.ref kTA, .ref dTA, .ref mTA, .int (iI nT)], aI t kTA 120 kT, aI t dTA 120 dT, aZ t mTA 120 mT]) (ws1 := [oB hT 3 [.ref kTA, .ref dTA, .ref mTA, .int (iI nT)], aI t kTA 120 kT, aI t dTA 120 dT, aZ t mTA 120 mT] ++ []) [0, 1, 2, 3] 4 rfl (by decide +kernel) rfl) rfl rfl (met_X3_presentBetween l D t hT kTA dTA mTA nT kT dT mT 0 nT _ hv) rfl gX3_presentKeys_X3_presentBetween rfl ⟨rfl, rfl⟩ ok_X3_presentBetween (by decide) (Nat.le_of_ble_eq_true rfl) dX3_presentKeys_6 (by decide) (fun r_1 _ hv => ?_)
  try dsimp only at hv
  refine V_perm (ws1 := [oB hT 3 [.ref kTA, .ref dTA, .ref mTA, .int (iI nT)], aI t kTA 120 kT, aI t dTA 120 dT, aZ t mTA 120 mT]) (pmI (ws := [oB hT 3 [.ref kTA, .ref dTA, .ref mTA, .int (iI nT)], aI t kTA 120 kT, aI t dTA 120 dT, aZ t mTA 120 mT] ++ []) (ws1 := [oB hT 3 [.ref kTA, .ref dTA, .ref mTA, .int (iI nT)], aI t kTA 120 kT, aI t dTA 120 dT, aZ t mTA 120 mT]) [0, 1, 2, 3] 4 rfl (by decide +kernel) rfl) ?_
  exact V_iret hc hr () hv rfl dX3_presentKeys_9
abbrev W1_X3_markedNodes (t : Nat → ClassId) (hT : Nat) (kTA : Nat) (dTA : Nat) (mTA : Nat) (nT : Int) (kT : Nat → Int) (dT : Nat → Int) (mT : Nat → Int) (u : Unit) : va_W := [oB hT 3 [.ref kTA, .ref dTA, .ref mTA, .int (iI nT)], aI t kTA 120 kT, aI t dTA 120 dT, aZ t mTA 120 mT]
abbrev po_X3_markedNodes (Q : Int → Prop) (r : Int) (u : Unit) : Prop := Q r
abbrev rm_X3_markedNodes : Room := { frames := 2, cells := 0, slots := 0, locals := 44 }
def wp_X3_markedNodes (nT : Int) (mT : Nat → Int) (Q : Int → Prop) : Prop := wp_X3_presentKeys nT mT (fun r_1 => Q (nT - r_1))
theorem m_X3_markedNodes_22 : Cond.fieldLink RX3 22 "BackgroundRebuild$Tree" "nodes" "I" ∈ wsX3_markedNodes := by decide +kernel
theorem i_X3_markedNodes_3 : ∀ w ∈ u_ws RX3 TX3 4, w ∈ wsX3_markedNodes := by decide +kernel
theorem ok_X3_markedNodes : yX3_markedNodes.cls = RX3 ∧ yX3_markedNodes.cls ≠ "java/lang/invoke/MethodHandle" ∧ yX3_markedNodes.cls ≠ "java/lang/invoke/VarHandle" ∧ (parseMethodDescriptor yX3_markedNodes.desc).map (fun d => d.parameters.length) = some 0 := by decide +kernel
set_option maxHeartbeats 4000000 in
set_option maxRecDepth 100000 in
theorem met_X3_markedNodes (l : Launch) (D : va_G) (t : Nat → ClassId) (hT : Nat) (kTA : Nat) (dTA : Nat) (mTA : Nat) (nT : Int) (kT : Nat → Int) (dT : Nat → Int) (mT : Nat → Int) (Q : Int → Prop) (hv : wp_X3_markedNodes nT mT Q) : MI l D t yX3_markedNodes wsX3_markedNodes rm_X3_markedNodes [.ref hT] [oB hT 3 [.ref kTA, .ref dTA, .ref mTA, .int (iI nT)], aI t kTA 120 kT, aI t dTA 120 dT, aZ t mTA 120 mT] (W1_X3_markedNodes t hT kTA dTA mTA nT kT dT mT) (po_X3_markedNodes Q) 0 0 := by
  refine M_ofi (cc := cX3_markedNodes) (nL := 1) (by decide) rfl (Nat.le_of_ble_eq_true rfl) ?_
  intro p e s m args below meth c A hc hr
  refine V_lv [0] [(0, .ref hT)] rfl ?_
  unfold wp_X3_markedNodes at hv
  refine V_aload_n hc dX3_markedNodes_0 0 rfl ?_
  refine V_get (C := RX3) (T := TX3) (N := 4) hc i_X3_markedNodes_3 0 rfl rfl 3 (by decide) m_X3_markedNodes_22 rfl dX3_markedNodes_1 ?_
  refine V_aload_n hc dX3_markedNodes_4 0 rfl ?_
  refine V_callVI (As := []) hc (wc := [oB hT 3 [.ref kTA, .ref dTA, .ref mTA, .int (iI nT)], aI t kTA 120 kT, aI t dTA 120 dT, aZ t mTA 120 mT]) (wr := []) (pmI (ws := [oB hT 3 [.ref kTA, .ref dTA, .ref mTA, .int (iI nT)], aI t kTA 120 kT, aI t dTA 120 dT, aZ t mTA 120 mT]) (ws1 := [oB hT 3 [.ref kTA, .ref dTA, .ref mTA, .int (iI nT)], aI t kTA 120 kT, aI t dTA 120 dT, aZ t mTA 120 mT] ++ []) [0, 1, 2, 3] 4 rfl (by decide +kernel) rfl) rfl rfl (met_X3_presentKeys l D t hT kTA dTA mTA nT kT dT mT _ hv) rfl gX3_markedNodes_X3_presentKeys rfl ⟨rfl, rfl⟩ ok_X3_presentKeys (by decide) (Nat.le_of_ble_eq_true rfl) dX3_markedNodes_5 (by decide) (fun r_1 _ hv => ?_)
  try dsimp only at hv
  refine V_perm (ws1 := [oB hT 3 [.ref kTA, .ref dTA, .ref mTA, .int (iI nT)], aI t kTA 120 kT, aI t dTA 120 dT, aZ t mTA 120 mT]) (pmI (ws := [oB hT 3 [.ref kTA, .ref dTA, .ref mTA, .int (iI nT)], aI t kTA 120 kT, aI t dTA 120 dT, aZ t mTA 120 mT] ++ []) (ws1 := [oB hT 3 [.ref kTA, .ref dTA, .ref mTA, .int (iI nT)], aI t kTA 120 kT, aI t dTA 120 dT, aZ t mTA 120 mT]) [0, 1, 2, 3] 4 rfl (by decide +kernel) rfl) ?_
  refine V_isub hc dX3_markedNodes_8 ?_
  exact V_iret hc hr () hv rfl dX3_markedNodes_9
abbrev W1_X3_presentBelow (t : Nat → ClassId) (hT : Nat) (kTA : Nat) (dTA : Nat) (mTA : Nat) (nT : Int) (kT : Nat → Int) (dT : Nat → Int) (mT : Nat → Int) (u : Unit) : va_W := [oB hT 3 [.ref kTA, .ref dTA, .ref mTA, .int (iI nT)], aI t kTA 120 kT, aI t dTA 120 dT, aZ t mTA 120 mT]
abbrev po_X3_presentBelow (Q : Int → Prop) (r : Int) (u : Unit) : Prop := Q r
abbrev rm_X3_presentBelow : Room := { frames := 0, cells := 0, slots := 0, locals := 0 }
def wp_X3_presentBelow_4 (nT : Int) (kT : Nat → Int) (mT : Nat → Int) (x1 : Int) (Q : Int → Prop) (K_4 : Int → Int → Prop) (x2 : Int) (x3 : Int) : Prop := inR x3 ∧ inR nT ∧ (x3 ≥ nT → Q x2) ∧ (¬ (x3 ≥ nT) → (0 ≤ x3 ∧ x3 < 120) ∧ inR (mT x3.toNat) ∧ (mT x3.toNat ≠ 0 → K_4 x2 (x3 + 1)) ∧ (¬ (mT x3.toNat ≠ 0) → (0 ≤ x3 ∧ x3 < 120) ∧ inR (kT x3.toNat) ∧ inR x1 ∧ (kT x3.toNat ≥ x1 → K_4 x2 (x3 + 1)) ∧ (¬ (kT x3.toNat ≥ x1) → K_4 (x2 + 1) (x3 + 1))))
def wp_X3_presentBelow (nT : Int) (kT : Nat → Int) (mT : Nat → Int) (x1 : Int) (Q : Int → Prop) : Prop := (∃ n, lq2 (wp_X3_presentBelow_4 nT kT mT x1 Q) n 0 0)
theorem m_X3_presentBelow_22 : Cond.fieldLink RX3 22 "BackgroundRebuild$Tree" "nodes" "I" ∈ wsX3_presentBelow := by decide +kernel
theorem m_X3_presentBelow_18 : Cond.fieldLink RX3 18 "BackgroundRebuild$Tree" "marks" "[Z" ∈ wsX3_presentBelow := by decide +kernel
theorem m_X3_presentBelow_9 : Cond.fieldLink RX3 9 "BackgroundRebuild$Tree" "keys" "[I" ∈ wsX3_presentBelow := by decide +kernel
theorem i_X3_presentBelow_3 : ∀ w ∈ u_ws RX3 TX3 4, w ∈ wsX3_presentBelow := by decide +kernel
theorem ok_X3_presentBelow : yX3_presentBelow.cls = RX3 ∧ yX3_presentBelow.cls ≠ "java/lang/invoke/MethodHandle" ∧ yX3_presentBelow.cls ≠ "java/lang/invoke/VarHandle" ∧ (parseMethodDescriptor yX3_presentBelow.desc).map (fun d => d.parameters.length) = some 1 := by decide +kernel
set_option maxHeartbeats 4000000 in
set_option maxRecDepth 100000 in
theorem met_X3_presentBelow (l : Launch) (D : va_G) (t : Nat → ClassId) (hT : Nat) (kTA : Nat) (dTA : Nat) (mTA : Nat) (nT : Int) (kT : Nat → Int) (dT : Nat → Int) (mT : Nat → Int) (x1 : Int) (Q : Int → Prop) (hv : wp_X3_presentBelow nT kT mT x1 Q) : MI l D t yX3_presentBelow wsX3_presentBelow rm_X3_presentBelow [.ref hT, .int (iI x1)] [oB hT 3 [.ref kTA, .ref dTA, .ref mTA, .int (iI nT)], aI t kTA 120 kT, aI t dTA 120 dT, aZ t mTA 120 mT] (W1_X3_presentBelow t hT kTA dTA mTA nT kT dT mT) (po_X3_presentBelow Q) 0 0 := by
  refine M_ofi (cc := cX3_presentBelow) (nL := 4) (by decide) rfl (Nat.le_of_ble_eq_true rfl) ?_
  intro p e s m args below meth c A hc hr
  have L_4 : ∀ (nT : Int) (kT : Nat → Int) (mT : Nat → Int) (x1 : Int) (n9 : Nat) (x2 : Int) (x3 : Int), lq2 (wp_X3_presentBelow_4 nT kT mT x1 Q) n9 x2 x3 → V p l e rm_X3_presentBelow s m args below meth c D A 4 0 0 (MQ below (QI D A (W1_X3_presentBelow t hT kTA dTA mTA nT kT dT mT) (po_X3_presentBelow Q)) args s 0 0 A) 4 [(0, .ref hT), (1, .int (iI x1)), (2, .int (iI x2)), (3, .int (iI x3))] [] [oB hT 3 [.ref kTA, .ref dTA, .ref mTA, .int (iI nT)], aI t kTA 120 kT, aI t dTA 120 dT, aZ t mTA 120 mT] := by
    intro nT kT mT x1 n9
    induction n9 with
    | zero =>
      intro x2 x3 hv
      exact hv.elim
    | succ n9 ih =>
      intro x2 x3 hv
      have hv : wp_X3_presentBelow_4 nT kT mT x1 Q (lq2 (wp_X3_presentBelow_4 nT kT mT x1 Q) n9) x2 x3 := hv
      generalize lq2 (wp_X3_presentBelow_4 nT kT mT x1 Q) n9 = K_4 at hv ih
      have hK_4 := ih
      unfold wp_X3_presentBelow_4 at hv
      refine V_iload_n hc dX3_presentBelow_4 3 rfl ?_
      refine V_aload_n hc dX3_presentBelow_5 0 rfl ?_
      refine V_get (C := RX3) (T := TX3) (N := 4) hc i_X3_presentBelow_3 0 rfl rfl 3 (by decide) m_X3_presentBelow_22 rfl dX3_presentBelow_6 ?_
      refine V_icmp_ge (tgt := 40) hc dX3_presentBelow_9 (by decide) hv (fun hv => ?_) (fun hv => ?_)
      · refine V_iload_n hc dX3_presentBelow_40 2 rfl ?_
        exact V_iret hc hr () hv rfl dX3_presentBelow_41
      · refine V_aload_n hc dX3_presentBelow_12 0 rfl ?_
        refine V_get (C := RX3) (T := TX3) (N := 4) hc i_X3_presentBelow_3 0 rfl rfl 2 (by decide) m_X3_presentBelow_18 rfl dX3_presentBelow_13 ?_
        refine V_iload_n hc dX3_presentBelow_16 3 rfl ?_
        refine V_zald hc 3 rfl (by decide) hv dX3_presentBelow_17 (fun hv => ?_)
        refine V_if_ne (tgt := 34) hc dX3_presentBelow_18 (by decide) hv (fun hv => ?_) (fun hv => ?_)
        · refine V_iinc hc dX3_presentBelow_34 3 rfl [(3, .int (iI (x3 + 1))), (0, .ref hT), (1, .int (iI x1)), (2, .int (iI x2))] (by decide) rfl ?_
          refine V_goto (tgt := 4) hc dX3_presentBelow_37 (by decide) ?_
          refine V_lv [1, 2, 3, 0] [(0, .ref hT), (1, .int (iI x1)), (2, .int (iI x2)), (3, .int (iI (x3 + 1)))] rfl ?_
          exact hK_4 x2 (x3 + 1) hv
        · refine V_aload_n hc dX3_presentBelow_21 0 rfl ?_
          refine V_get (C := RX3) (T := TX3) (N := 4) hc i_X3_presentBelow_3 0 rfl rfl 0 (by decide) m_X3_presentBelow_9 rfl dX3_presentBelow_22 ?_
          refine V_iload_n hc dX3_presentBelow_25 3 rfl ?_
          refine V_iald hc 1 rfl (by decide) hv dX3_presentBelow_26 (fun hv => ?_)
          refine V_iload_n hc dX3_presentBelow_27 1 rfl ?_
          refine V_icmp_ge (tgt := 34) hc dX3_presentBelow_28 (by decide) hv (fun hv => ?_) (fun hv => ?_)
          · refine V_iinc hc dX3_presentBelow_34 3 rfl [(3, .int (iI (x3 + 1))), (0, .ref hT), (1, .int (iI x1)), (2, .int (iI x2))] (by decide) rfl ?_
            refine V_goto (tgt := 4) hc dX3_presentBelow_37 (by decide) ?_
            refine V_lv [1, 2, 3, 0] [(0, .ref hT), (1, .int (iI x1)), (2, .int (iI x2)), (3, .int (iI (x3 + 1)))] rfl ?_
            exact hK_4 x2 (x3 + 1) hv
          · refine V_iinc hc dX3_presentBelow_31 2 rfl [(2, .int (iI (x2 + 1))), (0, .ref hT), (1, .int (iI x1)), (3, .int (iI x3))] (by decide) rfl ?_
            refine V_iinc hc dX3_presentBelow_34 3 rfl [(3, .int (iI (x3 + 1))), (2, .int (iI (x2 + 1))), (0, .ref hT), (1, .int (iI x1))] (by decide) rfl ?_
            refine V_goto (tgt := 4) hc dX3_presentBelow_37 (by decide) ?_
            refine V_lv [2, 3, 1, 0] [(0, .ref hT), (1, .int (iI x1)), (2, .int (iI (x2 + 1))), (3, .int (iI (x3 + 1)))] rfl ?_
            exact hK_4 (x2 + 1) (x3 + 1) hv
  refine V_lv [0, 1] [(0, .ref hT), (1, .int (iI x1))] rfl ?_
  unfold wp_X3_presentBelow at hv
  refine V_iconst hc dX3_presentBelow_0 ?_
  refine V_istore_n hc dX3_presentBelow_1 [(2, .int (iI 0)), (0, .ref hT), (1, .int (iI x1))] (by decide) rfl ?_
  refine V_iconst hc dX3_presentBelow_2 ?_
  refine V_istore_n hc dX3_presentBelow_3 [(3, .int (iI 0)), (2, .int (iI 0)), (0, .ref hT), (1, .int (iI x1))] (by decide) rfl ?_
  refine V_lv [2, 3, 1, 0] [(0, .ref hT), (1, .int (iI x1)), (2, .int (iI 0)), (3, .int (iI 0))] rfl ?_
  obtain ⟨n9, hv⟩ := hv
  exact L_4 nT kT mT x1 n9 0 0 hv
abbrev W1_X3_greatestUpTo (t : Nat → ClassId) (hT : Nat) (kTA : Nat) (dTA : Nat) (mTA : Nat) (nT : Int) (kT : Nat → Int) (dT : Nat → Int) (mT : Nat → Int) (u : Unit) : va_W := [oB hT 3 [.ref kTA, .ref dTA, .ref mTA, .int (iI nT)], aI t kTA 120 kT, aI t dTA 120 dT, aZ t mTA 120 mT]
abbrev po_X3_greatestUpTo (Q : Int → Prop) (r : Int) (u : Unit) : Prop := Q r
abbrev rm_X3_greatestUpTo : Room := { frames := 0, cells := 0, slots := 0, locals := 0 }
def wp_X3_greatestUpTo_4 (nT : Int) (kT : Nat → Int) (mT : Nat → Int) (x1 : Int) (Q : Int → Prop) (K_4 : Int → Int → Prop) (x2 : Int) (x3 : Int) : Prop := inR x3 ∧ inR nT ∧ (x3 ≥ nT → Q x2) ∧ (¬ (x3 ≥ nT) → (0 ≤ x3 ∧ x3 < 120) ∧ inR (mT x3.toNat) ∧ (mT x3.toNat ≠ 0 → K_4 x2 (x3 + 1)) ∧ (¬ (mT x3.toNat ≠ 0) → (0 ≤ x3 ∧ x3 < 120) ∧ inR (kT x3.toNat) ∧ inR x1 ∧ (kT x3.toNat > x1 → K_4 x2 (x3 + 1)) ∧ (¬ (kT x3.toNat > x1) → (0 ≤ x3 ∧ x3 < 120) ∧ inR (kT x3.toNat) ∧ inR x2 ∧ (kT x3.toNat ≤ x2 → K_4 x2 (x3 + 1)) ∧ (¬ (kT x3.toNat ≤ x2) → (0 ≤ x3 ∧ x3 < 120) ∧ K_4 (kT x3.toNat) (x3 + 1)))))
def wp_X3_greatestUpTo (nT : Int) (kT : Nat → Int) (mT : Nat → Int) (x1 : Int) (Q : Int → Prop) : Prop := (∃ n, lq2 (wp_X3_greatestUpTo_4 nT kT mT x1 Q) n (-1) 0)
theorem m_X3_greatestUpTo_22 : Cond.fieldLink RX3 22 "BackgroundRebuild$Tree" "nodes" "I" ∈ wsX3_greatestUpTo := by decide +kernel
theorem m_X3_greatestUpTo_18 : Cond.fieldLink RX3 18 "BackgroundRebuild$Tree" "marks" "[Z" ∈ wsX3_greatestUpTo := by decide +kernel
theorem m_X3_greatestUpTo_9 : Cond.fieldLink RX3 9 "BackgroundRebuild$Tree" "keys" "[I" ∈ wsX3_greatestUpTo := by decide +kernel
theorem i_X3_greatestUpTo_3 : ∀ w ∈ u_ws RX3 TX3 4, w ∈ wsX3_greatestUpTo := by decide +kernel
theorem ok_X3_greatestUpTo : yX3_greatestUpTo.cls = RX3 ∧ yX3_greatestUpTo.cls ≠ "java/lang/invoke/MethodHandle" ∧ yX3_greatestUpTo.cls ≠ "java/lang/invoke/VarHandle" ∧ (parseMethodDescriptor yX3_greatestUpTo.desc).map (fun d => d.parameters.length) = some 1 := by decide +kernel
set_option maxHeartbeats 4000000 in
set_option maxRecDepth 100000 in
theorem met_X3_greatestUpTo (l : Launch) (D : va_G) (t : Nat → ClassId) (hT : Nat) (kTA : Nat) (dTA : Nat) (mTA : Nat) (nT : Int) (kT : Nat → Int) (dT : Nat → Int) (mT : Nat → Int) (x1 : Int) (Q : Int → Prop) (hv : wp_X3_greatestUpTo nT kT mT x1 Q) : MI l D t yX3_greatestUpTo wsX3_greatestUpTo rm_X3_greatestUpTo [.ref hT, .int (iI x1)] [oB hT 3 [.ref kTA, .ref dTA, .ref mTA, .int (iI nT)], aI t kTA 120 kT, aI t dTA 120 dT, aZ t mTA 120 mT] (W1_X3_greatestUpTo t hT kTA dTA mTA nT kT dT mT) (po_X3_greatestUpTo Q) 0 0 := by
  refine M_ofi (cc := cX3_greatestUpTo) (nL := 4) (by decide) rfl (Nat.le_of_ble_eq_true rfl) ?_
  intro p e s m args below meth c A hc hr
  have L_4 : ∀ (nT : Int) (kT : Nat → Int) (mT : Nat → Int) (x1 : Int) (n9 : Nat) (x2 : Int) (x3 : Int), lq2 (wp_X3_greatestUpTo_4 nT kT mT x1 Q) n9 x2 x3 → V p l e rm_X3_greatestUpTo s m args below meth c D A 4 0 0 (MQ below (QI D A (W1_X3_greatestUpTo t hT kTA dTA mTA nT kT dT mT) (po_X3_greatestUpTo Q)) args s 0 0 A) 4 [(0, .ref hT), (1, .int (iI x1)), (2, .int (iI x2)), (3, .int (iI x3))] [] [oB hT 3 [.ref kTA, .ref dTA, .ref mTA, .int (iI nT)], aI t kTA 120 kT, aI t dTA 120 dT, aZ t mTA 120 mT] := by
    intro nT kT mT x1 n9
    induction n9 with
    | zero =>
      intro x2 x3 hv
      exact hv.elim
    | succ n9 ih =>
      intro x2 x3 hv
      have hv : wp_X3_greatestUpTo_4 nT kT mT x1 Q (lq2 (wp_X3_greatestUpTo_4 nT kT mT x1 Q) n9) x2 x3 := hv
      generalize lq2 (wp_X3_greatestUpTo_4 nT kT mT x1 Q) n9 = K_4 at hv ih
      have hK_4 := ih
      unfold wp_X3_greatestUpTo_4 at hv
      refine V_iload_n hc dX3_greatestUpTo_4 3 rfl ?_
      refine V_aload_n hc dX3_greatestUpTo_5 0 rfl ?_
      refine V_get (C := RX3) (T := TX3) (N := 4) hc i_X3_greatestUpTo_3 0 rfl rfl 3 (by decide) m_X3_greatestUpTo_22 rfl dX3_greatestUpTo_6 ?_
      refine V_icmp_ge (tgt := 54) hc dX3_greatestUpTo_9 (by decide) hv (fun hv => ?_) (fun hv => ?_)
      · refine V_iload_n hc dX3_greatestUpTo_54 2 rfl ?_
        exact V_iret hc hr () hv rfl dX3_greatestUpTo_55
      · refine V_aload_n hc dX3_greatestUpTo_12 0 rfl ?_
        refine V_get (C := RX3) (T := TX3) (N := 4) hc i_X3_greatestUpTo_3 0 rfl rfl 2 (by decide) m_X3_greatestUpTo_18 rfl dX3_greatestUpTo_13 ?_
        refine V_iload_n hc dX3_greatestUpTo_16 3 rfl ?_
        refine V_zald hc 3 rfl (by decide) hv dX3_greatestUpTo_17 (fun hv => ?_)
        refine V_if_ne (tgt := 48) hc dX3_greatestUpTo_18 (by decide) hv (fun hv => ?_) (fun hv => ?_)
        · refine V_iinc hc dX3_greatestUpTo_48 3 rfl [(3, .int (iI (x3 + 1))), (0, .ref hT), (1, .int (iI x1)), (2, .int (iI x2))] (by decide) rfl ?_
          refine V_goto (tgt := 4) hc dX3_greatestUpTo_51 (by decide) ?_
          refine V_lv [1, 2, 3, 0] [(0, .ref hT), (1, .int (iI x1)), (2, .int (iI x2)), (3, .int (iI (x3 + 1)))] rfl ?_
          exact hK_4 x2 (x3 + 1) hv
        · refine V_aload_n hc dX3_greatestUpTo_21 0 rfl ?_
          refine V_get (C := RX3) (T := TX3) (N := 4) hc i_X3_greatestUpTo_3 0 rfl rfl 0 (by decide) m_X3_greatestUpTo_9 rfl dX3_greatestUpTo_22 ?_
          refine V_iload_n hc dX3_greatestUpTo_25 3 rfl ?_
          refine V_iald hc 1 rfl (by decide) hv dX3_greatestUpTo_26 (fun hv => ?_)
          refine V_iload_n hc dX3_greatestUpTo_27 1 rfl ?_
          refine V_icmp_gt (tgt := 48) hc dX3_greatestUpTo_28 (by decide) hv (fun hv => ?_) (fun hv => ?_)
          · refine V_iinc hc dX3_greatestUpTo_48 3 rfl [(3, .int (iI (x3 + 1))), (0, .ref hT), (1, .int (iI x1)), (2, .int (iI x2))] (by decide) rfl ?_
            refine V_goto (tgt := 4) hc dX3_greatestUpTo_51 (by decide) ?_
            refine V_lv [1, 2, 3, 0] [(0, .ref hT), (1, .int (iI x1)), (2, .int (iI x2)), (3, .int (iI (x3 + 1)))] rfl ?_
            exact hK_4 x2 (x3 + 1) hv
          · refine V_aload_n hc dX3_greatestUpTo_31 0 rfl ?_
            refine V_get (C := RX3) (T := TX3) (N := 4) hc i_X3_greatestUpTo_3 0 rfl rfl 0 (by decide) m_X3_greatestUpTo_9 rfl dX3_greatestUpTo_32 ?_
            refine V_iload_n hc dX3_greatestUpTo_35 3 rfl ?_
            refine V_iald hc 1 rfl (by decide) hv dX3_greatestUpTo_36 (fun hv => ?_)
            refine V_iload_n hc dX3_greatestUpTo_37 2 rfl ?_
            refine V_icmp_le (tgt := 48) hc dX3_greatestUpTo_38 (by decide) hv (fun hv => ?_) (fun hv => ?_)
            · refine V_iinc hc dX3_greatestUpTo_48 3 rfl [(3, .int (iI (x3 + 1))), (0, .ref hT), (1, .int (iI x1)), (2, .int (iI x2))] (by decide) rfl ?_
              refine V_goto (tgt := 4) hc dX3_greatestUpTo_51 (by decide) ?_
              refine V_lv [1, 2, 3, 0] [(0, .ref hT), (1, .int (iI x1)), (2, .int (iI x2)), (3, .int (iI (x3 + 1)))] rfl ?_
              exact hK_4 x2 (x3 + 1) hv
            · refine V_aload_n hc dX3_greatestUpTo_41 0 rfl ?_
              refine V_get (C := RX3) (T := TX3) (N := 4) hc i_X3_greatestUpTo_3 0 rfl rfl 0 (by decide) m_X3_greatestUpTo_9 rfl dX3_greatestUpTo_42 ?_
              refine V_iload_n hc dX3_greatestUpTo_45 3 rfl ?_
              refine V_iald hc 1 rfl (by decide) hv dX3_greatestUpTo_46 (fun hv => ?_)
              refine V_istore_n hc dX3_greatestUpTo_47 [(2, .int (iI (kT x3.toNat))), (0, .ref hT), (1, .int (iI x1)), (3, .int (iI x3))] (by decide) rfl ?_
              refine V_iinc hc dX3_greatestUpTo_48 3 rfl [(3, .int (iI (x3 + 1))), (2, .int (iI (kT x3.toNat))), (0, .ref hT), (1, .int (iI x1))] (by decide) rfl ?_
              refine V_goto (tgt := 4) hc dX3_greatestUpTo_51 (by decide) ?_
              refine V_lv [2, 3, 1, 0] [(0, .ref hT), (1, .int (iI x1)), (2, .int (iI (kT x3.toNat))), (3, .int (iI (x3 + 1)))] rfl ?_
              exact hK_4 (kT x3.toNat) (x3 + 1) hv
  refine V_lv [0, 1] [(0, .ref hT), (1, .int (iI x1))] rfl ?_
  unfold wp_X3_greatestUpTo at hv
  refine V_iconst hc dX3_greatestUpTo_0 ?_
  refine V_istore_n hc dX3_greatestUpTo_1 [(2, .int (iI (-1))), (0, .ref hT), (1, .int (iI x1))] (by decide) rfl ?_
  refine V_iconst hc dX3_greatestUpTo_2 ?_
  refine V_istore_n hc dX3_greatestUpTo_3 [(3, .int (iI 0)), (2, .int (iI (-1))), (0, .ref hT), (1, .int (iI x1))] (by decide) rfl ?_
  refine V_lv [2, 3, 1, 0] [(0, .ref hT), (1, .int (iI x1)), (2, .int (iI (-1))), (3, .int (iI 0))] rfl ?_
  obtain ⟨n9, hv⟩ := hv
  exact L_4 nT kT mT x1 n9 (-1) 0 hv
abbrev W1_X3_leastFrom (t : Nat → ClassId) (hT : Nat) (kTA : Nat) (dTA : Nat) (mTA : Nat) (nT : Int) (kT : Nat → Int) (dT : Nat → Int) (mT : Nat → Int) (u : Unit) : va_W := [oB hT 3 [.ref kTA, .ref dTA, .ref mTA, .int (iI nT)], aI t kTA 120 kT, aI t dTA 120 dT, aZ t mTA 120 mT]
abbrev po_X3_leastFrom (Q : Int → Prop) (r : Int) (u : Unit) : Prop := Q r
abbrev rm_X3_leastFrom : Room := { frames := 0, cells := 0, slots := 0, locals := 0 }
def wp_X3_leastFrom_6 (nT : Int) (kT : Nat → Int) (mT : Nat → Int) (x1 : Int) (Q : Int → Prop) (K_6 : Int → Int → Prop) (x2 : Int) (x3 : Int) : Prop := inR x3 ∧ inR nT ∧ (x3 ≥ nT → inR x2 ∧ (x2 ≠ 500 → Q x2) ∧ (¬ (x2 ≠ 500) → Q (-1))) ∧ (¬ (x3 ≥ nT) → (0 ≤ x3 ∧ x3 < 120) ∧ inR (mT x3.toNat) ∧ (mT x3.toNat ≠ 0 → K_6 x2 (x3 + 1)) ∧ (¬ (mT x3.toNat ≠ 0) → (0 ≤ x3 ∧ x3 < 120) ∧ inR (kT x3.toNat) ∧ inR x1 ∧ (kT x3.toNat < x1 → K_6 x2 (x3 + 1)) ∧ (¬ (kT x3.toNat < x1) → (0 ≤ x3 ∧ x3 < 120) ∧ inR (kT x3.toNat) ∧ inR x2 ∧ (kT x3.toNat ≥ x2 → K_6 x2 (x3 + 1)) ∧ (¬ (kT x3.toNat ≥ x2) → (0 ≤ x3 ∧ x3 < 120) ∧ K_6 (kT x3.toNat) (x3 + 1)))))
def wp_X3_leastFrom (nT : Int) (kT : Nat → Int) (mT : Nat → Int) (x1 : Int) (Q : Int → Prop) : Prop := (∃ n, lq2 (wp_X3_leastFrom_6 nT kT mT x1 Q) n 500 0)
theorem m_X3_leastFrom_22 : Cond.fieldLink RX3 22 "BackgroundRebuild$Tree" "nodes" "I" ∈ wsX3_leastFrom := by decide +kernel
theorem m_X3_leastFrom_18 : Cond.fieldLink RX3 18 "BackgroundRebuild$Tree" "marks" "[Z" ∈ wsX3_leastFrom := by decide +kernel
theorem m_X3_leastFrom_9 : Cond.fieldLink RX3 9 "BackgroundRebuild$Tree" "keys" "[I" ∈ wsX3_leastFrom := by decide +kernel
theorem i_X3_leastFrom_3 : ∀ w ∈ u_ws RX3 TX3 4, w ∈ wsX3_leastFrom := by decide +kernel
theorem ok_X3_leastFrom : yX3_leastFrom.cls = RX3 ∧ yX3_leastFrom.cls ≠ "java/lang/invoke/MethodHandle" ∧ yX3_leastFrom.cls ≠ "java/lang/invoke/VarHandle" ∧ (parseMethodDescriptor yX3_leastFrom.desc).map (fun d => d.parameters.length) = some 1 := by decide +kernel
set_option maxHeartbeats 4000000 in
set_option maxRecDepth 100000 in
theorem met_X3_leastFrom (l : Launch) (D : va_G) (t : Nat → ClassId) (hT : Nat) (kTA : Nat) (dTA : Nat) (mTA : Nat) (nT : Int) (kT : Nat → Int) (dT : Nat → Int) (mT : Nat → Int) (x1 : Int) (Q : Int → Prop) (hv : wp_X3_leastFrom nT kT mT x1 Q) : MI l D t yX3_leastFrom wsX3_leastFrom rm_X3_leastFrom [.ref hT, .int (iI x1)] [oB hT 3 [.ref kTA, .ref dTA, .ref mTA, .int (iI nT)], aI t kTA 120 kT, aI t dTA 120 dT, aZ t mTA 120 mT] (W1_X3_leastFrom t hT kTA dTA mTA nT kT dT mT) (po_X3_leastFrom Q) 0 0 := by
  refine M_ofi (cc := cX3_leastFrom) (nL := 4) (by decide) rfl (Nat.le_of_ble_eq_true rfl) ?_
  intro p e s m args below meth c A hc hr
  have L_6 : ∀ (nT : Int) (kT : Nat → Int) (mT : Nat → Int) (x1 : Int) (n9 : Nat) (x2 : Int) (x3 : Int), lq2 (wp_X3_leastFrom_6 nT kT mT x1 Q) n9 x2 x3 → V p l e rm_X3_leastFrom s m args below meth c D A 4 0 0 (MQ below (QI D A (W1_X3_leastFrom t hT kTA dTA mTA nT kT dT mT) (po_X3_leastFrom Q)) args s 0 0 A) 6 [(0, .ref hT), (1, .int (iI x1)), (2, .int (iI x2)), (3, .int (iI x3))] [] [oB hT 3 [.ref kTA, .ref dTA, .ref mTA, .int (iI nT)], aI t kTA 120 kT, aI t dTA 120 dT, aZ t mTA 120 mT] := by
    intro nT kT mT x1 n9
    induction n9 with
    | zero =>
      intro x2 x3 hv
      exact hv.elim
    | succ n9 ih =>
      intro x2 x3 hv
      have hv : wp_X3_leastFrom_6 nT kT mT x1 Q (lq2 (wp_X3_leastFrom_6 nT kT mT x1 Q) n9) x2 x3 := hv
      generalize lq2 (wp_X3_leastFrom_6 nT kT mT x1 Q) n9 = K_6 at hv ih
      have hK_6 := ih
      unfold wp_X3_leastFrom_6 at hv
      refine V_iload_n hc dX3_leastFrom_6 3 rfl ?_
      refine V_aload_n hc dX3_leastFrom_7 0 rfl ?_
      refine V_get (C := RX3) (T := TX3) (N := 4) hc i_X3_leastFrom_3 0 rfl rfl 3 (by decide) m_X3_leastFrom_22 rfl dX3_leastFrom_8 ?_
      refine V_icmp_ge (tgt := 56) hc dX3_leastFrom_11 (by decide) hv (fun hv => ?_) (fun hv => ?_)
      · refine V_iload_n hc dX3_leastFrom_56 2 rfl ?_
        refine V_sipush hc dX3_leastFrom_57 (by decide) ?_
        refine V_icmp_ne (tgt := 67) hc dX3_leastFrom_60 (by decide) ⟨hv.1, by decide, hv.2⟩ (fun hv => ?_) (fun hv => ?_)
        · refine V_iload_n hc dX3_leastFrom_67 2 rfl ?_
          exact V_iret hc hr () hv rfl dX3_leastFrom_68
        · refine V_iconst hc dX3_leastFrom_63 ?_
          refine V_goto (tgt := 68) hc dX3_leastFrom_64 (by decide) ?_
          exact V_iret hc hr () hv rfl dX3_leastFrom_68
      · refine V_aload_n hc dX3_leastFrom_14 0 rfl ?_
        refine V_get (C := RX3) (T := TX3) (N := 4) hc i_X3_leastFrom_3 0 rfl rfl 2 (by decide) m_X3_leastFrom_18 rfl dX3_leastFrom_15 ?_
        refine V_iload_n hc dX3_leastFrom_18 3 rfl ?_
        refine V_zald hc 3 rfl (by decide) hv dX3_leastFrom_19 (fun hv => ?_)
        refine V_if_ne (tgt := 50) hc dX3_leastFrom_20 (by decide) hv (fun hv => ?_) (fun hv => ?_)
        · refine V_iinc hc dX3_leastFrom_50 3 rfl [(3, .int (iI (x3 + 1))), (0, .ref hT), (1, .int (iI x1)), (2, .int (iI x2))] (by decide) rfl ?_
          refine V_goto (tgt := 6) hc dX3_leastFrom_53 (by decide) ?_
          refine V_lv [1, 2, 3, 0] [(0, .ref hT), (1, .int (iI x1)), (2, .int (iI x2)), (3, .int (iI (x3 + 1)))] rfl ?_
          exact hK_6 x2 (x3 + 1) hv
        · refine V_aload_n hc dX3_leastFrom_23 0 rfl ?_
          refine V_get (C := RX3) (T := TX3) (N := 4) hc i_X3_leastFrom_3 0 rfl rfl 0 (by decide) m_X3_leastFrom_9 rfl dX3_leastFrom_24 ?_
          refine V_iload_n hc dX3_leastFrom_27 3 rfl ?_
          refine V_iald hc 1 rfl (by decide) hv dX3_leastFrom_28 (fun hv => ?_)
          refine V_iload_n hc dX3_leastFrom_29 1 rfl ?_
          refine V_icmp_lt (tgt := 50) hc dX3_leastFrom_30 (by decide) hv (fun hv => ?_) (fun hv => ?_)
          · refine V_iinc hc dX3_leastFrom_50 3 rfl [(3, .int (iI (x3 + 1))), (0, .ref hT), (1, .int (iI x1)), (2, .int (iI x2))] (by decide) rfl ?_
            refine V_goto (tgt := 6) hc dX3_leastFrom_53 (by decide) ?_
            refine V_lv [1, 2, 3, 0] [(0, .ref hT), (1, .int (iI x1)), (2, .int (iI x2)), (3, .int (iI (x3 + 1)))] rfl ?_
            exact hK_6 x2 (x3 + 1) hv
          · refine V_aload_n hc dX3_leastFrom_33 0 rfl ?_
            refine V_get (C := RX3) (T := TX3) (N := 4) hc i_X3_leastFrom_3 0 rfl rfl 0 (by decide) m_X3_leastFrom_9 rfl dX3_leastFrom_34 ?_
            refine V_iload_n hc dX3_leastFrom_37 3 rfl ?_
            refine V_iald hc 1 rfl (by decide) hv dX3_leastFrom_38 (fun hv => ?_)
            refine V_iload_n hc dX3_leastFrom_39 2 rfl ?_
            refine V_icmp_ge (tgt := 50) hc dX3_leastFrom_40 (by decide) hv (fun hv => ?_) (fun hv => ?_)
            · refine V_iinc hc dX3_leastFrom_50 3 rfl [(3, .int (iI (x3 + 1))), (0, .ref hT), (1, .int (iI x1)), (2, .int (iI x2))] (by decide) rfl ?_
              refine V_goto (tgt := 6) hc dX3_leastFrom_53 (by decide) ?_
              refine V_lv [1, 2, 3, 0] [(0, .ref hT), (1, .int (iI x1)), (2, .int (iI x2)), (3, .int (iI (x3 + 1)))] rfl ?_
              exact hK_6 x2 (x3 + 1) hv
            · refine V_aload_n hc dX3_leastFrom_43 0 rfl ?_
              refine V_get (C := RX3) (T := TX3) (N := 4) hc i_X3_leastFrom_3 0 rfl rfl 0 (by decide) m_X3_leastFrom_9 rfl dX3_leastFrom_44 ?_
              refine V_iload_n hc dX3_leastFrom_47 3 rfl ?_
              refine V_iald hc 1 rfl (by decide) hv dX3_leastFrom_48 (fun hv => ?_)
              refine V_istore_n hc dX3_leastFrom_49 [(2, .int (iI (kT x3.toNat))), (0, .ref hT), (1, .int (iI x1)), (3, .int (iI x3))] (by decide) rfl ?_
              refine V_iinc hc dX3_leastFrom_50 3 rfl [(3, .int (iI (x3 + 1))), (2, .int (iI (kT x3.toNat))), (0, .ref hT), (1, .int (iI x1))] (by decide) rfl ?_
              refine V_goto (tgt := 6) hc dX3_leastFrom_53 (by decide) ?_
              refine V_lv [2, 3, 1, 0] [(0, .ref hT), (1, .int (iI x1)), (2, .int (iI (kT x3.toNat))), (3, .int (iI (x3 + 1)))] rfl ?_
              exact hK_6 (kT x3.toNat) (x3 + 1) hv
  refine V_lv [0, 1] [(0, .ref hT), (1, .int (iI x1))] rfl ?_
  unfold wp_X3_leastFrom at hv
  refine V_sipush hc dX3_leastFrom_0 (by decide) ?_
  refine V_istore_n hc dX3_leastFrom_3 [(2, .int (iI 500)), (0, .ref hT), (1, .int (iI x1))] (by decide) rfl ?_
  refine V_iconst hc dX3_leastFrom_4 ?_
  refine V_istore_n hc dX3_leastFrom_5 [(3, .int (iI 0)), (2, .int (iI 500)), (0, .ref hT), (1, .int (iI x1))] (by decide) rfl ?_
  refine V_lv [2, 3, 1, 0] [(0, .ref hT), (1, .int (iI x1)), (2, .int (iI 500)), (3, .int (iI 0))] rfl ?_
  obtain ⟨n9, hv⟩ := hv
  exact L_6 nT kT mT x1 n9 500 0 hv
abbrev W1_X3_greatestDepth (t : Nat → ClassId) (hT : Nat) (kTA : Nat) (dTA : Nat) (mTA : Nat) (nT : Int) (kT : Nat → Int) (dT : Nat → Int) (mT : Nat → Int) (u : Unit) : va_W := [oB hT 3 [.ref kTA, .ref dTA, .ref mTA, .int (iI nT)], aI t kTA 120 kT, aI t dTA 120 dT, aZ t mTA 120 mT]
abbrev po_X3_greatestDepth (Q : Int → Prop) (r : Int) (u : Unit) : Prop := Q r
abbrev rm_X3_greatestDepth : Room := { frames := 1, cells := 0, slots := 0, locals := 40 }
def wp_X3_greatestDepth_4 (nT : Int) (dT : Nat → Int) (Q : Int → Prop) (K_4 : Int → Int → Prop) (x1 : Int) (x2 : Int) : Prop := inR x2 ∧ inR nT ∧ (x2 ≥ nT → Q x1) ∧ (¬ (x2 ≥ nT) → (0 ≤ x2 ∧ x2 < 120) ∧ inR x1 ∧ inR (dT x2.toNat) ∧ K_4 (max x1 (dT x2.toNat)) (x2 + 1))
def wp_X3_greatestDepth (nT : Int) (dT : Nat → Int) (Q : Int → Prop) : Prop := (∃ n, lq2 (wp_X3_greatestDepth_4 nT dT Q) n 0 0)
theorem m_X3_greatestDepth_22 : Cond.fieldLink RX3 22 "BackgroundRebuild$Tree" "nodes" "I" ∈ wsX3_greatestDepth := by decide +kernel
theorem m_X3_greatestDepth_15 : Cond.fieldLink RX3 15 "BackgroundRebuild$Tree" "depths" "[I" ∈ wsX3_greatestDepth := by decide +kernel
theorem m_X3_greatestDepth_mx54 : Cond.methodLink RX3 54 Lib.Math.max.name ∈ wsX3_greatestDepth := by decide +kernel
theorem m_X3_greatestDepth_mxs : Cond.static Lib.Math.max.name ∈ wsX3_greatestDepth := by decide +kernel
theorem m_X3_greatestDepth_mxi : Cond.initialized "java/lang/Math" ∈ wsX3_greatestDepth := by decide +kernel
theorem m_X3_greatestDepth_mxc : Cond.code Lib.Math.max.name Lib.Math.max.code 2 (some .int) ∈ wsX3_greatestDepth := by decide +kernel
theorem i_X3_greatestDepth_3 : ∀ w ∈ u_ws RX3 TX3 4, w ∈ wsX3_greatestDepth := by decide +kernel
theorem ok_X3_greatestDepth : yX3_greatestDepth.cls = RX3 ∧ yX3_greatestDepth.cls ≠ "java/lang/invoke/MethodHandle" ∧ yX3_greatestDepth.cls ≠ "java/lang/invoke/VarHandle" ∧ (parseMethodDescriptor yX3_greatestDepth.desc).map (fun d => d.parameters.length) = some 0 := by decide +kernel
set_option maxHeartbeats 4000000 in
set_option maxRecDepth 100000 in
theorem met_X3_greatestDepth (l : Launch) (D : va_G) (t : Nat → ClassId) (hT : Nat) (kTA : Nat) (dTA : Nat) (mTA : Nat) (nT : Int) (kT : Nat → Int) (dT : Nat → Int) (mT : Nat → Int) (Q : Int → Prop) (hv : wp_X3_greatestDepth nT dT Q) : MI l D t yX3_greatestDepth wsX3_greatestDepth rm_X3_greatestDepth [.ref hT] [oB hT 3 [.ref kTA, .ref dTA, .ref mTA, .int (iI nT)], aI t kTA 120 kT, aI t dTA 120 dT, aZ t mTA 120 mT] (W1_X3_greatestDepth t hT kTA dTA mTA nT kT dT mT) (po_X3_greatestDepth Q) 0 0 := by
  refine M_ofi (cc := cX3_greatestDepth) (nL := 3) (by decide) rfl (Nat.le_of_ble_eq_true rfl) ?_
  intro p e s m args below meth c A hc hr
  have L_4 : ∀ (nT : Int) (dT : Nat → Int) (n9 : Nat) (x1 : Int) (x2 : Int), lq2 (wp_X3_greatestDepth_4 nT dT Q) n9 x1 x2 → V p l e rm_X3_greatestDepth s m args below meth c D A 3 0 0 (MQ below (QI D A (W1_X3_greatestDepth t hT kTA dTA mTA nT kT dT mT) (po_X3_greatestDepth Q)) args s 0 0 A) 4 [(0, .ref hT), (1, .int (iI x1)), (2, .int (iI x2))] [] [oB hT 3 [.ref kTA, .ref dTA, .ref mTA, .int (iI nT)], aI t kTA 120 kT, aI t dTA 120 dT, aZ t mTA 120 mT] := by
    intro nT dT n9
    induction n9 with
    | zero =>
      intro x1 x2 hv
      exact hv.elim
    | succ n9 ih =>
      intro x1 x2 hv
      have hv : wp_X3_greatestDepth_4 nT dT Q (lq2 (wp_X3_greatestDepth_4 nT dT Q) n9) x1 x2 := hv
      generalize lq2 (wp_X3_greatestDepth_4 nT dT Q) n9 = K_4 at hv ih
      have hK_4 := ih
      unfold wp_X3_greatestDepth_4 at hv
      refine V_iload_n hc dX3_greatestDepth_4 2 rfl ?_
      refine V_aload_n hc dX3_greatestDepth_5 0 rfl ?_
      refine V_get (C := RX3) (T := TX3) (N := 4) hc i_X3_greatestDepth_3 0 rfl rfl 3 (by decide) m_X3_greatestDepth_22 rfl dX3_greatestDepth_6 ?_
      refine V_icmp_ge (tgt := 29) hc dX3_greatestDepth_9 (by decide) hv (fun hv => ?_) (fun hv => ?_)
      · refine V_iload_n hc dX3_greatestDepth_29 1 rfl ?_
        exact V_iret hc hr () hv rfl dX3_greatestDepth_30
      · refine V_iload_n hc dX3_greatestDepth_12 1 rfl ?_
        refine V_aload_n hc dX3_greatestDepth_13 0 rfl ?_
        refine V_get (C := RX3) (T := TX3) (N := 4) hc i_X3_greatestDepth_3 0 rfl rfl 1 (by decide) m_X3_greatestDepth_15 rfl dX3_greatestDepth_14 ?_
        refine V_iload_n hc dX3_greatestDepth_17 2 rfl ?_
        refine V_iald hc 2 rfl (by decide) hv dX3_greatestDepth_18 (fun hv => ?_)
        refine V_max hc m_X3_greatestDepth_mx54 m_X3_greatestDepth_mxs m_X3_greatestDepth_mxi m_X3_greatestDepth_mxc (by decide) (Nat.le_of_ble_eq_true rfl) (by decide) hv dX3_greatestDepth_19 (fun hv => ?_)
        refine V_istore_n hc dX3_greatestDepth_22 [(1, .int (iI (max x1 (dT x2.toNat)))), (0, .ref hT), (2, .int (iI x2))] (by decide) rfl ?_
        refine V_iinc hc dX3_greatestDepth_23 2 rfl [(2, .int (iI (x2 + 1))), (1, .int (iI (max x1 (dT x2.toNat)))), (0, .ref hT)] (by decide) rfl ?_
        refine V_goto (tgt := 4) hc dX3_greatestDepth_26 (by decide) ?_
        refine V_lv [2, 1, 0] [(0, .ref hT), (1, .int (iI (max x1 (dT x2.toNat)))), (2, .int (iI (x2 + 1)))] rfl ?_
        exact hK_4 (max x1 (dT x2.toNat)) (x2 + 1) hv
  refine V_lv [0] [(0, .ref hT)] rfl ?_
  unfold wp_X3_greatestDepth at hv
  refine V_iconst hc dX3_greatestDepth_0 ?_
  refine V_istore_n hc dX3_greatestDepth_1 [(1, .int (iI 0)), (0, .ref hT)] (by decide) rfl ?_
  refine V_iconst hc dX3_greatestDepth_2 ?_
  refine V_istore_n hc dX3_greatestDepth_3 [(2, .int (iI 0)), (1, .int (iI 0)), (0, .ref hT)] (by decide) rfl ?_
  refine V_lv [2, 1, 0] [(0, .ref hT), (1, .int (iI 0)), (2, .int (iI 0))] rfl ?_
  obtain ⟨n9, hv⟩ := hv
  exact L_4 nT dT n9 0 0 hv
abbrev W1_X3_sumOfDepths (t : Nat → ClassId) (hT : Nat) (kTA : Nat) (dTA : Nat) (mTA : Nat) (nT : Int) (kT : Nat → Int) (dT : Nat → Int) (mT : Nat → Int) (u : Unit) : va_W := [oB hT 3 [.ref kTA, .ref dTA, .ref mTA, .int (iI nT)], aI t kTA 120 kT, aI t dTA 120 dT, aZ t mTA 120 mT]
abbrev po_X3_sumOfDepths (Q : Int → Prop) (r : Int) (u : Unit) : Prop := Q r
abbrev rm_X3_sumOfDepths : Room := { frames := 0, cells := 0, slots := 0, locals := 0 }
def wp_X3_sumOfDepths_25 (nT : Int) (dT : Nat → Int) (mT : Nat → Int) (x1 : Int) (x2 : Int) (x3 : Int) (Q : Int → Prop) (K_4 : Int → Int → Prop) : Prop := (0 ≤ x3 ∧ x3 < 120) ∧ K_4 (x2 + (dT x3.toNat)) (x3 + 1)
def wp_X3_sumOfDepths_4 (nT : Int) (dT : Nat → Int) (mT : Nat → Int) (x1 : Int) (Q : Int → Prop) (K_4 : Int → Int → Prop) (x2 : Int) (x3 : Int) : Prop := inR x3 ∧ inR nT ∧ (x3 ≥ nT → Q x2) ∧ (¬ (x3 ≥ nT) → inR x1 ∧ (x1 ≠ 0 → wp_X3_sumOfDepths_25 nT dT mT x1 x2 x3 Q K_4) ∧ (¬ (x1 ≠ 0) → (0 ≤ x3 ∧ x3 < 120) ∧ inR (mT x3.toNat) ∧ (mT x3.toNat ≠ 0 → K_4 x2 (x3 + 1)) ∧ (¬ (mT x3.toNat ≠ 0) → wp_X3_sumOfDepths_25 nT dT mT x1 x2 x3 Q K_4)))
def wp_X3_sumOfDepths (nT : Int) (dT : Nat → Int) (mT : Nat → Int) (x1 : Int) (Q : Int → Prop) : Prop := (∃ n, lq2 (wp_X3_sumOfDepths_4 nT dT mT x1 Q) n 0 0)
theorem m_X3_sumOfDepths_22 : Cond.fieldLink RX3 22 "BackgroundRebuild$Tree" "nodes" "I" ∈ wsX3_sumOfDepths := by decide +kernel
theorem m_X3_sumOfDepths_18 : Cond.fieldLink RX3 18 "BackgroundRebuild$Tree" "marks" "[Z" ∈ wsX3_sumOfDepths := by decide +kernel
theorem m_X3_sumOfDepths_15 : Cond.fieldLink RX3 15 "BackgroundRebuild$Tree" "depths" "[I" ∈ wsX3_sumOfDepths := by decide +kernel
theorem i_X3_sumOfDepths_3 : ∀ w ∈ u_ws RX3 TX3 4, w ∈ wsX3_sumOfDepths := by decide +kernel
theorem ok_X3_sumOfDepths : yX3_sumOfDepths.cls = RX3 ∧ yX3_sumOfDepths.cls ≠ "java/lang/invoke/MethodHandle" ∧ yX3_sumOfDepths.cls ≠ "java/lang/invoke/VarHandle" ∧ (parseMethodDescriptor yX3_sumOfDepths.desc).map (fun d => d.parameters.length) = some 1 := by decide +kernel
set_option maxHeartbeats 4000000 in
set_option maxRecDepth 100000 in
theorem met_X3_sumOfDepths (l : Launch) (D : va_G) (t : Nat → ClassId) (hT : Nat) (kTA : Nat) (dTA : Nat) (mTA : Nat) (nT : Int) (kT : Nat → Int) (dT : Nat → Int) (mT : Nat → Int) (x1 : Int) (Q : Int → Prop) (hv : wp_X3_sumOfDepths nT dT mT x1 Q) : MI l D t yX3_sumOfDepths wsX3_sumOfDepths rm_X3_sumOfDepths [.ref hT, .int (iI x1)] [oB hT 3 [.ref kTA, .ref dTA, .ref mTA, .int (iI nT)], aI t kTA 120 kT, aI t dTA 120 dT, aZ t mTA 120 mT] (W1_X3_sumOfDepths t hT kTA dTA mTA nT kT dT mT) (po_X3_sumOfDepths Q) 0 0 := by
  refine M_ofi (cc := cX3_sumOfDepths) (nL := 4) (by decide) rfl (Nat.le_of_ble_eq_true rfl) ?_
  intro p e s m args below meth c A hc hr
  have C_25 : ∀ (nT : Int) (dT : Nat → Int) (mT : Nat → Int) (x1 : Int) (x2 : Int) (x3 : Int) (K_4 : Int → Int → Prop) (hK_4 : ∀ (x2 : Int) (x3 : Int), K_4 x2 x3 → V p l e rm_X3_sumOfDepths s m args below meth c D A 4 0 0 (MQ below (QI D A (W1_X3_sumOfDepths t hT kTA dTA mTA nT kT dT mT) (po_X3_sumOfDepths Q)) args s 0 0 A) 4 [(0, .ref hT), (1, .int (iI x1)), (2, .int (iI x2)), (3, .int (iI x3))] [] [oB hT 3 [.ref kTA, .ref dTA, .ref mTA, .int (iI nT)], aI t kTA 120 kT, aI t dTA 120 dT, aZ t mTA 120 mT]), wp_X3_sumOfDepths_25 nT dT mT x1 x2 x3 Q K_4 → V p l e rm_X3_sumOfDepths s m args below meth c D A 4 0 0 (MQ below (QI D A (W1_X3_sumOfDepths t hT kTA dTA mTA nT kT dT mT) (po_X3_sumOfDepths Q)) args s 0 0 A) 25 [(0, .ref hT), (1, .int (iI x1)), (2, .int (iI x2)), (3, .int (iI x3))] [] [oB hT 3 [.ref kTA, .ref dTA, .ref mTA, .int (iI nT)], aI t kTA 120 kT, aI t dTA 120 dT, aZ t mTA 120 mT] := by
    intro nT dT mT x1 x2 x3 K_4 hK_4 hv
    unfold wp_X3_sumOfDepths_25 at hv
    refine V_iload_n hc dX3_sumOfDepths_25 2 rfl ?_
    refine V_aload_n hc dX3_sumOfDepths_26 0 rfl ?_
    refine V_get (C := RX3) (T := TX3) (N := 4) hc i_X3_sumOfDepths_3 0 rfl rfl 1 (by decide) m_X3_sumOfDepths_15 rfl dX3_sumOfDepths_27 ?_
    refine V_iload_n hc dX3_sumOfDepths_30 3 rfl ?_
    refine V_iald hc 2 rfl (by decide) hv dX3_sumOfDepths_31 (fun hv => ?_)
    refine V_iadd hc dX3_sumOfDepths_32 ?_
    refine V_istore_n hc dX3_sumOfDepths_33 [(2, .int (iI (x2 + (dT x3.toNat)))), (0, .ref hT), (1, .int (iI x1)), (3, .int (iI x3))] (by decide) rfl ?_
    refine V_iinc hc dX3_sumOfDepths_34 3 rfl [(3, .int (iI (x3 + 1))), (2, .int (iI (x2 + (dT x3.toNat)))), (0, .ref hT), (1, .int (iI x1))] (by decide) rfl ?_
    refine V_goto (tgt := 4) hc dX3_sumOfDepths_37 (by decide) ?_
    refine V_lv [2, 3, 1, 0] [(0, .ref hT), (1, .int (iI x1)), (2, .int (iI (x2 + (dT x3.toNat)))), (3, .int (iI (x3 + 1)))] rfl ?_
    exact hK_4 (x2 + (dT x3.toNat)) (x3 + 1) hv
  have L_4 : ∀ (nT : Int) (dT : Nat → Int) (mT : Nat → Int) (x1 : Int) (n9 : Nat) (x2 : Int) (x3 : Int), lq2 (wp_X3_sumOfDepths_4 nT dT mT x1 Q) n9 x2 x3 → V p l e rm_X3_sumOfDepths s m args below meth c D A 4 0 0 (MQ below (QI D A (W1_X3_sumOfDepths t hT kTA dTA mTA nT kT dT mT) (po_X3_sumOfDepths Q)) args s 0 0 A) 4 [(0, .ref hT), (1, .int (iI x1)), (2, .int (iI x2)), (3, .int (iI x3))] [] [oB hT 3 [.ref kTA, .ref dTA, .ref mTA, .int (iI nT)], aI t kTA 120 kT, aI t dTA 120 dT, aZ t mTA 120 mT] := by
    intro nT dT mT x1 n9
    induction n9 with
    | zero =>
      intro x2 x3 hv
      exact hv.elim
    | succ n9 ih =>
      intro x2 x3 hv
      have hv : wp_X3_sumOfDepths_4 nT dT mT x1 Q (lq2 (wp_X3_sumOfDepths_4 nT dT mT x1 Q) n9) x2 x3 := hv
      generalize lq2 (wp_X3_sumOfDepths_4 nT dT mT x1 Q) n9 = K_4 at hv ih
      have hK_4 := ih
      unfold wp_X3_sumOfDepths_4 at hv
      refine V_iload_n hc dX3_sumOfDepths_4 3 rfl ?_
      refine V_aload_n hc dX3_sumOfDepths_5 0 rfl ?_
      refine V_get (C := RX3) (T := TX3) (N := 4) hc i_X3_sumOfDepths_3 0 rfl rfl 3 (by decide) m_X3_sumOfDepths_22 rfl dX3_sumOfDepths_6 ?_
      refine V_icmp_ge (tgt := 40) hc dX3_sumOfDepths_9 (by decide) hv (fun hv => ?_) (fun hv => ?_)
      · refine V_iload_n hc dX3_sumOfDepths_40 2 rfl ?_
        exact V_iret hc hr () hv rfl dX3_sumOfDepths_41
      · refine V_iload_n hc dX3_sumOfDepths_12 1 rfl ?_
        refine V_if_ne (tgt := 25) hc dX3_sumOfDepths_13 (by decide) hv (fun hv => ?_) (fun hv => ?_)
        · exact C_25 nT dT mT x1 x2 x3 K_4 hK_4 hv
        · refine V_aload_n hc dX3_sumOfDepths_16 0 rfl ?_
          refine V_get (C := RX3) (T := TX3) (N := 4) hc i_X3_sumOfDepths_3 0 rfl rfl 2 (by decide) m_X3_sumOfDepths_18 rfl dX3_sumOfDepths_17 ?_
          refine V_iload_n hc dX3_sumOfDepths_20 3 rfl ?_
          refine V_zald hc 3 rfl (by decide) hv dX3_sumOfDepths_21 (fun hv => ?_)
          refine V_if_ne (tgt := 34) hc dX3_sumOfDepths_22 (by decide) hv (fun hv => ?_) (fun hv => ?_)
          · refine V_iinc hc dX3_sumOfDepths_34 3 rfl [(3, .int (iI (x3 + 1))), (0, .ref hT), (1, .int (iI x1)), (2, .int (iI x2))] (by decide) rfl ?_
            refine V_goto (tgt := 4) hc dX3_sumOfDepths_37 (by decide) ?_
            refine V_lv [1, 2, 3, 0] [(0, .ref hT), (1, .int (iI x1)), (2, .int (iI x2)), (3, .int (iI (x3 + 1)))] rfl ?_
            exact hK_4 x2 (x3 + 1) hv
          · exact C_25 nT dT mT x1 x2 x3 K_4 hK_4 hv
  refine V_lv [0, 1] [(0, .ref hT), (1, .int (iI x1))] rfl ?_
  unfold wp_X3_sumOfDepths at hv
  refine V_iconst hc dX3_sumOfDepths_0 ?_
  refine V_istore_n hc dX3_sumOfDepths_1 [(2, .int (iI 0)), (0, .ref hT), (1, .int (iI x1))] (by decide) rfl ?_
  refine V_iconst hc dX3_sumOfDepths_2 ?_
  refine V_istore_n hc dX3_sumOfDepths_3 [(3, .int (iI 0)), (2, .int (iI 0)), (0, .ref hT), (1, .int (iI x1))] (by decide) rfl ?_
  refine V_lv [2, 3, 1, 0] [(0, .ref hT), (1, .int (iI x1)), (2, .int (iI 0)), (3, .int (iI 0))] rfl ?_
  obtain ⟨n9, hv⟩ := hv
  exact L_4 nT dT mT x1 n9 0 0 hv
abbrev W1_X3_leaves (t : Nat → ClassId) (hT : Nat) (kTA : Nat) (dTA : Nat) (mTA : Nat) (nT : Int) (kT : Nat → Int) (dT : Nat → Int) (mT : Nat → Int) (u : Unit) : va_W := [oB hT 3 [.ref kTA, .ref dTA, .ref mTA, .int (iI nT)], aI t kTA 120 kT, aI t dTA 120 dT, aZ t mTA 120 mT]
abbrev po_X3_leaves (Q : Int → Prop) (r : Int) (u : Unit) : Prop := Q r
abbrev rm_X3_leaves : Room := { frames := 1, cells := 0, slots := 0, locals := 22 }
def wp_X3_leaves_4 (nT : Int) (dT : Nat → Int) (Q : Int → Prop) (K_4 : Int → Int → Prop) (x1 : Int) (x2 : Int) : Prop := inR x2 ∧ inR nT ∧ (x2 ≥ nT → Q x1) ∧ (¬ (x2 ≥ nT) → wp_X3_subtreeEnd nT dT x2 (fun r_1 => inR r_1 ∧ inR (x2 + 1) ∧ (r_1 ≠ x2 + 1 → K_4 x1 (x2 + 1)) ∧ (¬ (r_1 ≠ x2 + 1) → K_4 (x1 + 1) (x2 + 1))))
def wp_X3_leaves (nT : Int) (dT : Nat → Int) (Q : Int → Prop) : Prop := (∃ n, lq2 (wp_X3_leaves_4 nT dT Q) n 0 0)
theorem m_X3_leaves_22 : Cond.fieldLink RX3 22 "BackgroundRebuild$Tree" "nodes" "I" ∈ wsX3_leaves := by decide +kernel
theorem i_X3_leaves_3 : ∀ w ∈ u_ws RX3 TX3 4, w ∈ wsX3_leaves := by decide +kernel
theorem ok_X3_leaves : yX3_leaves.cls = RX3 ∧ yX3_leaves.cls ≠ "java/lang/invoke/MethodHandle" ∧ yX3_leaves.cls ≠ "java/lang/invoke/VarHandle" ∧ (parseMethodDescriptor yX3_leaves.desc).map (fun d => d.parameters.length) = some 0 := by decide +kernel
set_option maxHeartbeats 4000000 in
set_option maxRecDepth 100000 in
theorem met_X3_leaves (l : Launch) (D : va_G) (t : Nat → ClassId) (hT : Nat) (kTA : Nat) (dTA : Nat) (mTA : Nat) (nT : Int) (kT : Nat → Int) (dT : Nat → Int) (mT : Nat → Int) (Q : Int → Prop) (hv : wp_X3_leaves nT dT Q) : MI l D t yX3_leaves wsX3_leaves rm_X3_leaves [.ref hT] [oB hT 3 [.ref kTA, .ref dTA, .ref mTA, .int (iI nT)], aI t kTA 120 kT, aI t dTA 120 dT, aZ t mTA 120 mT] (W1_X3_leaves t hT kTA dTA mTA nT kT dT mT) (po_X3_leaves Q) 0 0 := by
  refine M_ofi (cc := cX3_leaves) (nL := 3) (by decide) rfl (Nat.le_of_ble_eq_true rfl) ?_
  intro p e s m args below meth c A hc hr
  have L_4 : ∀ (nT : Int) (dT : Nat → Int) (n9 : Nat) (x1 : Int) (x2 : Int), lq2 (wp_X3_leaves_4 nT dT Q) n9 x1 x2 → V p l e rm_X3_leaves s m args below meth c D A 3 0 0 (MQ below (QI D A (W1_X3_leaves t hT kTA dTA mTA nT kT dT mT) (po_X3_leaves Q)) args s 0 0 A) 4 [(0, .ref hT), (1, .int (iI x1)), (2, .int (iI x2))] [] [oB hT 3 [.ref kTA, .ref dTA, .ref mTA, .int (iI nT)], aI t kTA 120 kT, aI t dTA 120 dT, aZ t mTA 120 mT] := by
    intro nT dT n9
    induction n9 with
    | zero =>
      intro x1 x2 hv
      exact hv.elim
    | succ n9 ih =>
      intro x1 x2 hv
      have hv : wp_X3_leaves_4 nT dT Q (lq2 (wp_X3_leaves_4 nT dT Q) n9) x1 x2 := hv
      generalize lq2 (wp_X3_leaves_4 nT dT Q) n9 = K_4 at hv ih
      have hK_4 := ih
      unfold wp_X3_leaves_4 at hv
      refine V_iload_n hc dX3_leaves_4 2 rfl ?_
      refine V_aload_n hc dX3_leaves_5 0 rfl ?_
      refine V_get (C := RX3) (T := TX3) (N := 4) hc i_X3_leaves_3 0 rfl rfl 3 (by decide) m_X3_leaves_22 rfl dX3_leaves_6 ?_
      refine V_icmp_ge (tgt := 32) hc dX3_leaves_9 (by decide) hv (fun hv => ?_) (fun hv => ?_)
      · refine V_iload_n hc dX3_leaves_32 1 rfl ?_
        exact V_iret hc hr () hv rfl dX3_leaves_33
      · refine V_aload_n hc dX3_leaves_12 0 rfl ?_
        refine V_iload_n hc dX3_leaves_13 2 rfl ?_
        refine V_callVI (As := [.int (iI x2)]) hc (wc := [oB hT 3 [.ref kTA, .ref dTA, .ref mTA, .int (iI nT)], aI t kTA 120 kT, aI t dTA 120 dT, aZ t mTA 120 mT]) (wr := []) (pmI (ws := [oB hT 3 [.ref kTA, .ref dTA, .ref mTA, .int (iI nT)], aI t kTA 120 kT, aI t dTA 120 dT, aZ t mTA 120 mT]) (ws1 := [oB hT 3 [.ref kTA, .ref dTA, .ref mTA, .int (iI nT)], aI t kTA 120 kT, aI t dTA 120 dT, aZ t mTA 120 mT] ++ []) [0, 1, 2, 3] 4 rfl (by decide +kernel) rfl) rfl rfl (met_X3_subtreeEnd l D t hT kTA dTA mTA nT kT dT mT x2 _ hv) rfl gX3_leaves_X3_subtreeEnd rfl ⟨rfl, rfl⟩ ok_X3_subtreeEnd (by decide) (Nat.le_of_ble_eq_true rfl) dX3_leaves_14 (by decide) (fun r_1 _ hv => ?_)
        try dsimp only at hv
        refine V_perm (ws1 := [oB hT 3 [.ref kTA, .ref dTA, .ref mTA, .int (iI nT)], aI t kTA 120 kT, aI t dTA 120 dT, aZ t mTA 120 mT]) (pmI (ws := [oB hT 3 [.ref kTA, .ref dTA, .ref mTA, .int (iI nT)], aI t kTA 120 kT, aI t dTA 120 dT, aZ t mTA 120 mT] ++ []) (ws1 := [oB hT 3 [.ref kTA, .ref dTA, .ref mTA, .int (iI nT)], aI t kTA 120 kT, aI t dTA 120 dT, aZ t mTA 120 mT]) [0, 1, 2, 3] 4 rfl (by decide +kernel) rfl) ?_
        refine V_iload_n hc dX3_leaves_17 2 rfl ?_
        refine V_iconst hc dX3_leaves_18 ?_
        refine V_iadd hc dX3_leaves_19 ?_
        refine V_icmp_ne (tgt := 26) hc dX3_leaves_20 (by decide) hv (fun hv => ?_) (fun hv => ?_)
        · refine V_iinc hc dX3_leaves_26 2 rfl [(2, .int (iI (x2 + 1))), (0, .ref hT), (1, .int (iI x1))] (by decide) rfl ?_
          refine V_goto (tgt := 4) hc dX3_leaves_29 (by decide) ?_
          refine V_lv [1, 2, 0] [(0, .ref hT), (1, .int (iI x1)), (2, .int (iI (x2 + 1)))] rfl ?_
          exact hK_4 x1 (x2 + 1) hv
        · refine V_iinc hc dX3_leaves_23 1 rfl [(1, .int (iI (x1 + 1))), (0, .ref hT), (2, .int (iI x2))] (by decide) rfl ?_
          refine V_iinc hc dX3_leaves_26 2 rfl [(2, .int (iI (x2 + 1))), (1, .int (iI (x1 + 1))), (0, .ref hT)] (by decide) rfl ?_
          refine V_goto (tgt := 4) hc dX3_leaves_29 (by decide) ?_
          refine V_lv [2, 1, 0] [(0, .ref hT), (1, .int (iI (x1 + 1))), (2, .int (iI (x2 + 1)))] rfl ?_
          exact hK_4 (x1 + 1) (x2 + 1) hv
  refine V_lv [0] [(0, .ref hT)] rfl ?_
  unfold wp_X3_leaves at hv
  refine V_iconst hc dX3_leaves_0 ?_
  refine V_istore_n hc dX3_leaves_1 [(1, .int (iI 0)), (0, .ref hT)] (by decide) rfl ?_
  refine V_iconst hc dX3_leaves_2 ?_
  refine V_istore_n hc dX3_leaves_3 [(2, .int (iI 0)), (1, .int (iI 0)), (0, .ref hT)] (by decide) rfl ?_
  refine V_lv [2, 1, 0] [(0, .ref hT), (1, .int (iI 0)), (2, .int (iI 0))] rfl ?_
  obtain ⟨n9, hv⟩ := hv
  exact L_4 nT dT n9 0 0 hv
abbrev W1_X3_tellPresence (t : Nat → ClassId) (hT : Nat) (kTA : Nat) (dTA : Nat) (mTA : Nat) (hP : Nat) (nT : Int) (kT : Nat → Int) (dT : Nat → Int) (mT : Nat → Int) (u : (Nat → Int)) : va_W := [oB hT 3 [.ref kTA, .ref dTA, .ref mTA, .int (iI nT)], aI t kTA 120 kT, aI t dTA 120 dT, aZ t mTA 120 mT, aZ t hP 500 u]
abbrev po_X3_tellPresence (Q : (Nat → Int) → Prop) (u : (Nat → Int)) : Prop := Q u
abbrev rm_X3_tellPresence : Room := { frames := 0, cells := 0, slots := 0, locals := 0 }
def wp_X3_tellPresence_20 (nT : Int) (kT : Nat → Int) (mT : Nat → Int) (Q : (Nat → Int) → Prop) (K_20 : (Nat → Int) → Int → Prop) (aP : Nat → Int) (x2 : Int) : Prop := inR x2 ∧ inR nT ∧ (x2 ≥ nT → Q aP) ∧ (¬ (x2 ≥ nT) → (0 ≤ x2 ∧ x2 < 120) ∧ inR (kT x2.toNat) ∧ (kT x2.toNat ≥ 500 → K_20 aP (x2 + 1)) ∧ (¬ (kT x2.toNat ≥ 500) → (0 ≤ x2 ∧ x2 < 120) ∧ (0 ≤ x2 ∧ x2 < 120) ∧ inR (mT x2.toNat) ∧ (mT x2.toNat ≠ 0 → (0 ≤ kT x2.toNat ∧ kT x2.toNat < 500) ∧ K_20 (uI aP ((kT x2.toNat).toNat) 0) (x2 + 1)) ∧ (¬ (mT x2.toNat ≠ 0) → (0 ≤ kT x2.toNat ∧ kT x2.toNat < 500) ∧ K_20 (uI aP ((kT x2.toNat).toNat) 1) (x2 + 1))))
def wp_X3_tellPresence_2 (nT : Int) (kT : Nat → Int) (mT : Nat → Int) (Q : (Nat → Int) → Prop) (K_2 : (Nat → Int) → Int → Prop) (aP : Nat → Int) (x2 : Int) : Prop := inR x2 ∧ (x2 ≥ 500 → (∃ n, lq2 (wp_X3_tellPresence_20 nT kT mT Q) n aP 0)) ∧ (¬ (x2 ≥ 500) → (0 ≤ x2 ∧ x2 < 500) ∧ K_2 (uI aP (x2.toNat) 0) (x2 + 1))
def wp_X3_tellPresence (nT : Int) (kT : Nat → Int) (mT : Nat → Int) (aP : Nat → Int) (Q : (Nat → Int) → Prop) : Prop := (∃ n, lq2 (wp_X3_tellPresence_2 nT kT mT Q) n aP 0)
theorem m_X3_tellPresence_22 : Cond.fieldLink RX3 22 "BackgroundRebuild$Tree" "nodes" "I" ∈ wsX3_tellPresence := by decide +kernel
theorem m_X3_tellPresence_9 : Cond.fieldLink RX3 9 "BackgroundRebuild$Tree" "keys" "[I" ∈ wsX3_tellPresence := by decide +kernel
theorem m_X3_tellPresence_18 : Cond.fieldLink RX3 18 "BackgroundRebuild$Tree" "marks" "[Z" ∈ wsX3_tellPresence := by decide +kernel
theorem i_X3_tellPresence_3 : ∀ w ∈ u_ws RX3 TX3 4, w ∈ wsX3_tellPresence := by decide +kernel
theorem ok_X3_tellPresence : yX3_tellPresence.cls = RX3 ∧ yX3_tellPresence.cls ≠ "java/lang/invoke/MethodHandle" ∧ yX3_tellPresence.cls ≠ "java/lang/invoke/VarHandle" ∧ (parseMethodDescriptor yX3_tellPresence.desc).map (fun d => d.parameters.length) = some 1 := by decide +kernel
set_option maxHeartbeats 4000000 in
set_option maxRecDepth 100000 in
theorem met_X3_tellPresence (l : Launch) (D : va_G) (t : Nat → ClassId) (hT : Nat) (kTA : Nat) (dTA : Nat) (mTA : Nat) (hP : Nat) (nT : Int) (kT : Nat → Int) (dT : Nat → Int) (mT : Nat → Int) (aP : Nat → Int) (Q : (Nat → Int) → Prop) (hv : wp_X3_tellPresence nT kT mT aP Q) : MV l D t yX3_tellPresence wsX3_tellPresence rm_X3_tellPresence [.ref hT, .ref hP] [oB hT 3 [.ref kTA, .ref dTA, .ref mTA, .int (iI nT)], aI t kTA 120 kT, aI t dTA 120 dT, aZ t mTA 120 mT, aZ t hP 500 aP] (W1_X3_tellPresence t hT kTA dTA mTA hP nT kT dT mT) (po_X3_tellPresence Q) 0 0 := by
  refine M_ofv (cc := cX3_tellPresence) (nL := 3) (by decide) rfl (Nat.le_of_ble_eq_true rfl) ?_
  intro p e s m args below meth c A hc hr
  have L_20 : ∀ (nT : Int) (kT : Nat → Int) (mT : Nat → Int) (n9 : Nat) (aP : Nat → Int) (x2 : Int), lq2 (wp_X3_tellPresence_20 nT kT mT Q) n9 aP x2 → V p l e rm_X3_tellPresence s m args below meth c D A 3 0 0 (MQ below (QV D A (W1_X3_tellPresence t hT kTA dTA mTA hP nT kT dT mT) (po_X3_tellPresence Q)) args s 0 0 A) 20 [(0, .ref hT), (1, .ref hP), (2, .int (iI x2))] [] [oB hT 3 [.ref kTA, .ref dTA, .ref mTA, .int (iI nT)], aI t kTA 120 kT, aI t dTA 120 dT, aZ t mTA 120 mT, aZ t hP 500 aP] := by
    intro nT kT mT n9
    induction n9 with
    | zero =>
      intro aP x2 hv
      exact hv.elim
    | succ n9 ih =>
      intro aP x2 hv
      have hv : wp_X3_tellPresence_20 nT kT mT Q (lq2 (wp_X3_tellPresence_20 nT kT mT Q) n9) aP x2 := hv
      generalize lq2 (wp_X3_tellPresence_20 nT kT mT Q) n9 = K_20 at hv ih
      have hK_20 := ih
      unfold wp_X3_tellPresence_20 at hv
      refine V_iload_n hc dX3_tellPresence_20 2 rfl ?_
      refine V_aload_n hc dX3_tellPresence_21 0 rfl ?_
      refine V_get (C := RX3) (T := TX3) (N := 4) hc i_X3_tellPresence_3 0 rfl rfl 3 (by decide) m_X3_tellPresence_22 rfl dX3_tellPresence_22 ?_
      refine V_icmp_ge (tgt := 67) hc dX3_tellPresence_25 (by decide) hv (fun hv => ?_) (fun hv => ?_)
      · exact V_vret hc hr aP hv rfl dX3_tellPresence_67
      · refine V_aload_n hc dX3_tellPresence_28 0 rfl ?_
        refine V_get (C := RX3) (T := TX3) (N := 4) hc i_X3_tellPresence_3 0 rfl rfl 0 (by decide) m_X3_tellPresence_9 rfl dX3_tellPresence_29 ?_
        refine V_iload_n hc dX3_tellPresence_32 2 rfl ?_
        refine V_iald hc 1 rfl (by decide) hv dX3_tellPresence_33 (fun hv => ?_)
        refine V_aload_n hc dX3_tellPresence_34 1 rfl ?_
        refine V_alen hc 4 (ti := 1) (v := 500) rfl rfl (by decide) dX3_tellPresence_35 ?_
        refine V_icmp_ge (tgt := 61) hc dX3_tellPresence_36 (by decide) ⟨hv.1, by decide, hv.2⟩ (fun hv => ?_) (fun hv => ?_)
        · refine V_iinc hc dX3_tellPresence_61 2 rfl [(2, .int (iI (x2 + 1))), (0, .ref hT), (1, .ref hP)] (by decide) rfl ?_
          refine V_goto (tgt := 20) hc dX3_tellPresence_64 (by decide) ?_
          refine V_lv [1, 2, 0] [(0, .ref hT), (1, .ref hP), (2, .int (iI (x2 + 1)))] rfl ?_
          exact hK_20 aP (x2 + 1) hv
        · refine V_aload_n hc dX3_tellPresence_39 1 rfl ?_
          refine V_aload_n hc dX3_tellPresence_40 0 rfl ?_
          refine V_get (C := RX3) (T := TX3) (N := 4) hc i_X3_tellPresence_3 0 rfl rfl 0 (by decide) m_X3_tellPresence_9 rfl dX3_tellPresence_41 ?_
          refine V_iload_n hc dX3_tellPresence_44 2 rfl ?_
          refine V_iald hc 1 rfl (by decide) hv dX3_tellPresence_45 (fun hv => ?_)
          refine V_aload_n hc dX3_tellPresence_46 0 rfl ?_
          refine V_get (C := RX3) (T := TX3) (N := 4) hc i_X3_tellPresence_3 0 rfl rfl 2 (by decide) m_X3_tellPresence_18 rfl dX3_tellPresence_47 ?_
          refine V_iload_n hc dX3_tellPresence_50 2 rfl ?_
          refine V_zald hc 3 rfl (by decide) hv dX3_tellPresence_51 (fun hv => ?_)
          refine V_if_ne (tgt := 59) hc dX3_tellPresence_52 (by decide) hv (fun hv => ?_) (fun hv => ?_)
          · refine V_iconst hc dX3_tellPresence_59 ?_
            refine V_zast hc 4 rfl (by decide) ⟨hv.1, by decide, hv.2⟩ dX3_tellPresence_60 [oB hT 3 [.ref kTA, .ref dTA, .ref mTA, .int (iI nT)], aI t kTA 120 kT, aI t dTA 120 dT, aZ t mTA 120 mT, aZ t hP 500 (uI aP ((kT x2.toNat).toNat) 0)] rfl (fun hv => ?_)
            refine V_iinc hc dX3_tellPresence_61 2 rfl [(2, .int (iI (x2 + 1))), (0, .ref hT), (1, .ref hP)] (by decide) rfl ?_
            refine V_goto (tgt := 20) hc dX3_tellPresence_64 (by decide) ?_
            refine V_lv [1, 2, 0] [(0, .ref hT), (1, .ref hP), (2, .int (iI (x2 + 1)))] rfl ?_
            exact hK_20 (uI aP ((kT x2.toNat).toNat) 0) (x2 + 1) hv
          · refine V_iconst hc dX3_tellPresence_55 ?_
            refine V_goto (tgt := 60) hc dX3_tellPresence_56 (by decide) ?_
            refine V_zast hc 4 rfl (by decide) ⟨hv.1, by decide, hv.2⟩ dX3_tellPresence_60 [oB hT 3 [.ref kTA, .ref dTA, .ref mTA, .int (iI nT)], aI t kTA 120 kT, aI t dTA 120 dT, aZ t mTA 120 mT, aZ t hP 500 (uI aP ((kT x2.toNat).toNat) 1)] rfl (fun hv => ?_)
            refine V_iinc hc dX3_tellPresence_61 2 rfl [(2, .int (iI (x2 + 1))), (0, .ref hT), (1, .ref hP)] (by decide) rfl ?_
            refine V_goto (tgt := 20) hc dX3_tellPresence_64 (by decide) ?_
            refine V_lv [1, 2, 0] [(0, .ref hT), (1, .ref hP), (2, .int (iI (x2 + 1)))] rfl ?_
            exact hK_20 (uI aP ((kT x2.toNat).toNat) 1) (x2 + 1) hv
  have L_2 : ∀ (nT : Int) (kT : Nat → Int) (mT : Nat → Int) (n9 : Nat) (aP : Nat → Int) (x2 : Int), lq2 (wp_X3_tellPresence_2 nT kT mT Q) n9 aP x2 → V p l e rm_X3_tellPresence s m args below meth c D A 3 0 0 (MQ below (QV D A (W1_X3_tellPresence t hT kTA dTA mTA hP nT kT dT mT) (po_X3_tellPresence Q)) args s 0 0 A) 2 [(0, .ref hT), (1, .ref hP), (2, .int (iI x2))] [] [oB hT 3 [.ref kTA, .ref dTA, .ref mTA, .int (iI nT)], aI t kTA 120 kT, aI t dTA 120 dT, aZ t mTA 120 mT, aZ t hP 500 aP] := by
    intro nT kT mT n9
    induction n9 with
    | zero =>
      intro aP x2 hv
      exact hv.elim
    | succ n9 ih =>
      intro aP x2 hv
      have hv : wp_X3_tellPresence_2 nT kT mT Q (lq2 (wp_X3_tellPresence_2 nT kT mT Q) n9) aP x2 := hv
      generalize lq2 (wp_X3_tellPresence_2 nT kT mT Q) n9 = K_2 at hv ih
      have hK_2 := ih
      unfold wp_X3_tellPresence_2 at hv
      refine V_iload_n hc dX3_tellPresence_2 2 rfl ?_
      refine V_aload_n hc dX3_tellPresence_3 1 rfl ?_
      refine V_alen hc 4 (ti := 1) (v := 500) rfl rfl (by decide) dX3_tellPresence_4 ?_
      refine V_icmp_ge (tgt := 18) hc dX3_tellPresence_5 (by decide) ⟨hv.1, by decide, hv.2⟩ (fun hv => ?_) (fun hv => ?_)
      · refine V_iconst hc dX3_tellPresence_18 ?_
        refine V_istore_n hc dX3_tellPresence_19 [(2, .int (iI 0)), (0, .ref hT), (1, .ref hP)] (by decide) rfl ?_
        refine V_lv [1, 2, 0] [(0, .ref hT), (1, .ref hP), (2, .int (iI 0))] rfl ?_
        obtain ⟨n9, hv⟩ := hv
        exact L_20 nT kT mT n9 aP 0 hv
      · refine V_aload_n hc dX3_tellPresence_8 1 rfl ?_
        refine V_iload_n hc dX3_tellPresence_9 2 rfl ?_
        refine V_iconst hc dX3_tellPresence_10 ?_
        refine V_zast hc 4 rfl (by decide) ⟨hv.1, by decide, hv.2⟩ dX3_tellPresence_11 [oB hT 3 [.ref kTA, .ref dTA, .ref mTA, .int (iI nT)], aI t kTA 120 kT, aI t dTA 120 dT, aZ t mTA 120 mT, aZ t hP 500 (uI aP (x2.toNat) 0)] rfl (fun hv => ?_)
        refine V_iinc hc dX3_tellPresence_12 2 rfl [(2, .int (iI (x2 + 1))), (0, .ref hT), (1, .ref hP)] (by decide) rfl ?_
        refine V_goto (tgt := 2) hc dX3_tellPresence_15 (by decide) ?_
        refine V_lv [1, 2, 0] [(0, .ref hT), (1, .ref hP), (2, .int (iI (x2 + 1)))] rfl ?_
        exact hK_2 (uI aP (x2.toNat) 0) (x2 + 1) hv
  refine V_lv [0, 1] [(0, .ref hT), (1, .ref hP)] rfl ?_
  unfold wp_X3_tellPresence at hv
  refine V_iconst hc dX3_tellPresence_0 ?_
  refine V_istore_n hc dX3_tellPresence_1 [(2, .int (iI 0)), (0, .ref hT), (1, .ref hP)] (by decide) rfl ?_
  refine V_lv [1, 2, 0] [(0, .ref hT), (1, .ref hP), (2, .int (iI 0))] rfl ?_
  obtain ⟨n9, hv⟩ := hv
  exact L_2 nT kT mT n9 aP 0 hv
abbrev W1_X3_presentKeysAmong (t : Nat → ClassId) (hT : Nat) (kTA : Nat) (dTA : Nat) (mTA : Nat) (hP : Nat) (nT : Int) (kT : Nat → Int) (dT : Nat → Int) (mT : Nat → Int) (aP : Nat → Int) (u : Unit) : va_W := [oB hT 3 [.ref kTA, .ref dTA, .ref mTA, .int (iI nT)], aI t kTA 120 kT, aI t dTA 120 dT, aZ t mTA 120 mT, aZ t hP 500 aP]
abbrev po_X3_presentKeysAmong (Q : Int → Prop) (r : Int) (u : Unit) : Prop := Q r
abbrev rm_X3_presentKeysAmong : Room := { frames := 0, cells := 0, slots := 0, locals := 0 }
def wp_X3_presentKeysAmong_4 (nT : Int) (kT : Nat → Int) (mT : Nat → Int) (aP : Nat → Int) (Q : Int → Prop) (K_4 : Int → Int → Prop) (x2 : Int) (x3 : Int) : Prop := inR x3 ∧ inR nT ∧ (x3 ≥ nT → Q x2) ∧ (¬ (x3 ≥ nT) → (0 ≤ x3 ∧ x3 < 120) ∧ inR (mT x3.toNat) ∧ (mT x3.toNat ≠ 0 → K_4 x2 (x3 + 1)) ∧ (¬ (mT x3.toNat ≠ 0) → (0 ≤ x3 ∧ x3 < 120) ∧ inR (kT x3.toNat) ∧ (kT x3.toNat ≥ 500 → K_4 x2 (x3 + 1)) ∧ (¬ (kT x3.toNat ≥ 500) → (0 ≤ x3 ∧ x3 < 120) ∧ (0 ≤ kT x3.toNat ∧ kT x3.toNat < 500) ∧ inR (aP (kT x3.toNat).toNat) ∧ (aP (kT x3.toNat).toNat = 0 → K_4 x2 (x3 + 1)) ∧ (¬ (aP (kT x3.toNat).toNat = 0) → K_4 (x2 + 1) (x3 + 1)))))
def wp_X3_presentKeysAmong (nT : Int) (kT : Nat → Int) (mT : Nat → Int) (aP : Nat → Int) (Q : Int → Prop) : Prop := (∃ n, lq2 (wp_X3_presentKeysAmong_4 nT kT mT aP Q) n 0 0)
theorem m_X3_presentKeysAmong_22 : Cond.fieldLink RX3 22 "BackgroundRebuild$Tree" "nodes" "I" ∈ wsX3_presentKeysAmong := by decide +kernel
theorem m_X3_presentKeysAmong_18 : Cond.fieldLink RX3 18 "BackgroundRebuild$Tree" "marks" "[Z" ∈ wsX3_presentKeysAmong := by decide +kernel
theorem m_X3_presentKeysAmong_9 : Cond.fieldLink RX3 9 "BackgroundRebuild$Tree" "keys" "[I" ∈ wsX3_presentKeysAmong := by decide +kernel
theorem i_X3_presentKeysAmong_3 : ∀ w ∈ u_ws RX3 TX3 4, w ∈ wsX3_presentKeysAmong := by decide +kernel
theorem ok_X3_presentKeysAmong : yX3_presentKeysAmong.cls = RX3 ∧ yX3_presentKeysAmong.cls ≠ "java/lang/invoke/MethodHandle" ∧ yX3_presentKeysAmong.cls ≠ "java/lang/invoke/VarHandle" ∧ (parseMethodDescriptor yX3_presentKeysAmong.desc).map (fun d => d.parameters.length) = some 1 := by decide +kernel
set_option maxHeartbeats 4000000 in
set_option maxRecDepth 100000 in
theorem met_X3_presentKeysAmong (l : Launch) (D : va_G) (t : Nat → ClassId) (hT : Nat) (kTA : Nat) (dTA : Nat) (mTA : Nat) (hP : Nat) (nT : Int) (kT : Nat → Int) (dT : Nat → Int) (mT : Nat → Int) (aP : Nat → Int) (Q : Int → Prop) (hv : wp_X3_presentKeysAmong nT kT mT aP Q) : MI l D t yX3_presentKeysAmong wsX3_presentKeysAmong rm_X3_presentKeysAmong [.ref hT, .ref hP] [oB hT 3 [.ref kTA, .ref dTA, .ref mTA, .int (iI nT)], aI t kTA 120 kT, aI t dTA 120 dT, aZ t mTA 120 mT, aZ t hP 500 aP] (W1_X3_presentKeysAmong t hT kTA dTA mTA hP nT kT dT mT aP) (po_X3_presentKeysAmong Q) 0 0 := by
  refine M_ofi (cc := cX3_presentKeysAmong) (nL := 4) (by decide) rfl (Nat.le_of_ble_eq_true rfl) ?_
  intro p e s m args below meth c A hc hr
  have L_4 : ∀ (nT : Int) (kT : Nat → Int) (mT : Nat → Int) (aP : Nat → Int) (n9 : Nat) (x2 : Int) (x3 : Int), lq2 (wp_X3_presentKeysAmong_4 nT kT mT aP Q) n9 x2 x3 → V p l e rm_X3_presentKeysAmong s m args below meth c D A 4 0 0 (MQ below (QI D A (W1_X3_presentKeysAmong t hT kTA dTA mTA hP nT kT dT mT aP) (po_X3_presentKeysAmong Q)) args s 0 0 A) 4 [(0, .ref hT), (1, .ref hP), (2, .int (iI x2)), (3, .int (iI x3))] [] [oB hT 3 [.ref kTA, .ref dTA, .ref mTA, .int (iI nT)], aI t kTA 120 kT, aI t dTA 120 dT, aZ t mTA 120 mT, aZ t hP 500 aP] := by
    intro nT kT mT aP n9
    induction n9 with
    | zero =>
      intro x2 x3 hv
      exact hv.elim
    | succ n9 ih =>
      intro x2 x3 hv
      have hv : wp_X3_presentKeysAmong_4 nT kT mT aP Q (lq2 (wp_X3_presentKeysAmong_4 nT kT mT aP Q) n9) x2 x3 := hv
      generalize lq2 (wp_X3_presentKeysAmong_4 nT kT mT aP Q) n9 = K_4 at hv ih
      have hK_4 := ih
      unfold wp_X3_presentKeysAmong_4 at hv
      refine V_iload_n hc dX3_presentKeysAmong_4 3 rfl ?_
      refine V_aload_n hc dX3_presentKeysAmong_5 0 rfl ?_
      refine V_get (C := RX3) (T := TX3) (N := 4) hc i_X3_presentKeysAmong_3 0 rfl rfl 3 (by decide) m_X3_presentKeysAmong_22 rfl dX3_presentKeysAmong_6 ?_
      refine V_icmp_ge (tgt := 52) hc dX3_presentKeysAmong_9 (by decide) hv (fun hv => ?_) (fun hv => ?_)
      · refine V_iload_n hc dX3_presentKeysAmong_52 2 rfl ?_
        exact V_iret hc hr () hv rfl dX3_presentKeysAmong_53
      · refine V_aload_n hc dX3_presentKeysAmong_12 0 rfl ?_
        refine V_get (C := RX3) (T := TX3) (N := 4) hc i_X3_presentKeysAmong_3 0 rfl rfl 2 (by decide) m_X3_presentKeysAmong_18 rfl dX3_presentKeysAmong_13 ?_
        refine V_iload_n hc dX3_presentKeysAmong_16 3 rfl ?_
        refine V_zald hc 3 rfl (by decide) hv dX3_presentKeysAmong_17 (fun hv => ?_)
        refine V_if_ne (tgt := 46) hc dX3_presentKeysAmong_18 (by decide) hv (fun hv => ?_) (fun hv => ?_)
        · refine V_iinc hc dX3_presentKeysAmong_46 3 rfl [(3, .int (iI (x3 + 1))), (0, .ref hT), (1, .ref hP), (2, .int (iI x2))] (by decide) rfl ?_
          refine V_goto (tgt := 4) hc dX3_presentKeysAmong_49 (by decide) ?_
          refine V_lv [1, 2, 3, 0] [(0, .ref hT), (1, .ref hP), (2, .int (iI x2)), (3, .int (iI (x3 + 1)))] rfl ?_
          exact hK_4 x2 (x3 + 1) hv
        · refine V_aload_n hc dX3_presentKeysAmong_21 0 rfl ?_
          refine V_get (C := RX3) (T := TX3) (N := 4) hc i_X3_presentKeysAmong_3 0 rfl rfl 0 (by decide) m_X3_presentKeysAmong_9 rfl dX3_presentKeysAmong_22 ?_
          refine V_iload_n hc dX3_presentKeysAmong_25 3 rfl ?_
          refine V_iald hc 1 rfl (by decide) hv dX3_presentKeysAmong_26 (fun hv => ?_)
          refine V_aload_n hc dX3_presentKeysAmong_27 1 rfl ?_
          refine V_alen hc 4 (ti := 1) (v := 500) rfl rfl (by decide) dX3_presentKeysAmong_28 ?_
          refine V_icmp_ge (tgt := 46) hc dX3_presentKeysAmong_29 (by decide) ⟨hv.1, by decide, hv.2⟩ (fun hv => ?_) (fun hv => ?_)
          · refine V_iinc hc dX3_presentKeysAmong_46 3 rfl [(3, .int (iI (x3 + 1))), (0, .ref hT), (1, .ref hP), (2, .int (iI x2))] (by decide) rfl ?_
            refine V_goto (tgt := 4) hc dX3_presentKeysAmong_49 (by decide) ?_
            refine V_lv [1, 2, 3, 0] [(0, .ref hT), (1, .ref hP), (2, .int (iI x2)), (3, .int (iI (x3 + 1)))] rfl ?_
            exact hK_4 x2 (x3 + 1) hv
          · refine V_aload_n hc dX3_presentKeysAmong_32 1 rfl ?_
            refine V_aload_n hc dX3_presentKeysAmong_33 0 rfl ?_
            refine V_get (C := RX3) (T := TX3) (N := 4) hc i_X3_presentKeysAmong_3 0 rfl rfl 0 (by decide) m_X3_presentKeysAmong_9 rfl dX3_presentKeysAmong_34 ?_
            refine V_iload_n hc dX3_presentKeysAmong_37 3 rfl ?_
            refine V_iald hc 1 rfl (by decide) hv dX3_presentKeysAmong_38 (fun hv => ?_)
            refine V_zald hc 4 rfl (by decide) hv dX3_presentKeysAmong_39 (fun hv => ?_)
            refine V_if_eq (tgt := 46) hc dX3_presentKeysAmong_40 (by decide) hv (fun hv => ?_) (fun hv => ?_)
            · refine V_iinc hc dX3_presentKeysAmong_46 3 rfl [(3, .int (iI (x3 + 1))), (0, .ref hT), (1, .ref hP), (2, .int (iI x2))] (by decide) rfl ?_
              refine V_goto (tgt := 4) hc dX3_presentKeysAmong_49 (by decide) ?_
              refine V_lv [1, 2, 3, 0] [(0, .ref hT), (1, .ref hP), (2, .int (iI x2)), (3, .int (iI (x3 + 1)))] rfl ?_
              exact hK_4 x2 (x3 + 1) hv
            · refine V_iinc hc dX3_presentKeysAmong_43 2 rfl [(2, .int (iI (x2 + 1))), (0, .ref hT), (1, .ref hP), (3, .int (iI x3))] (by decide) rfl ?_
              refine V_iinc hc dX3_presentKeysAmong_46 3 rfl [(3, .int (iI (x3 + 1))), (2, .int (iI (x2 + 1))), (0, .ref hT), (1, .ref hP)] (by decide) rfl ?_
              refine V_goto (tgt := 4) hc dX3_presentKeysAmong_49 (by decide) ?_
              refine V_lv [2, 3, 1, 0] [(0, .ref hT), (1, .ref hP), (2, .int (iI (x2 + 1))), (3, .int (iI (x3 + 1)))] rfl ?_
              exact hK_4 (x2 + 1) (x3 + 1) hv
  refine V_lv [0, 1] [(0, .ref hT), (1, .ref hP)] rfl ?_
  unfold wp_X3_presentKeysAmong at hv
  refine V_iconst hc dX3_presentKeysAmong_0 ?_
  refine V_istore_n hc dX3_presentKeysAmong_1 [(2, .int (iI 0)), (0, .ref hT), (1, .ref hP)] (by decide) rfl ?_
  refine V_iconst hc dX3_presentKeysAmong_2 ?_
  refine V_istore_n hc dX3_presentKeysAmong_3 [(3, .int (iI 0)), (2, .int (iI 0)), (0, .ref hT), (1, .ref hP)] (by decide) rfl ?_
  refine V_lv [2, 3, 1, 0] [(0, .ref hT), (1, .ref hP), (2, .int (iI 0)), (3, .int (iI 0))] rfl ?_
  obtain ⟨n9, hv⟩ := hv
  exact L_4 nT kT mT aP n9 0 0 hv
