abbrev W1_X1_becomeCopyOf (t : Nat → ClassId) (hj : Nat) (hjs : Nat) (lijA : Nat) (qujA : Nat) (kjsA : Nat) (djsA : Nat) (mjsA : Nat) (hO : Nat) (hOs : Nat) (liOA : Nat) (quOA : Nat) (kOsA : Nat) (dOsA : Nat) (mOsA : Nat) (nlO : Int) (ncO : Int) (nwO : Int) (ruO : Int) (nOs : Int) (kOs : Nat → Int) (dOs : Nat → Int) (mOs : Nat → Int) (liO : Nat → Int) (quO : Nat → Int) (u : (Int) × (Int) × (Int) × (Int) × (Int) × (Nat → Int) × (Nat → Int) × (Nat → Int) × (Nat → Int) × (Nat → Int)) : va_W := [oB hj 1 [.ref hjs, .ref lijA, .int (iI u.1), .int (iI u.2.1), .ref qujA, .int (iI u.2.2.1), .int (iI u.2.2.2.1)], oB hjs 3 [.ref kjsA, .ref djsA, .ref mjsA, .int (iI u.2.2.2.2.1)], aI t kjsA 120 u.2.2.2.2.2.1, aI t djsA 120 u.2.2.2.2.2.2.1, aZ t mjsA 120 u.2.2.2.2.2.2.2.1, aI t lijA 120 u.2.2.2.2.2.2.2.2.1, aI t qujA 30 u.2.2.2.2.2.2.2.2.2, oB hO 1 [.ref hOs, .ref liOA, .int (iI nlO), .int (iI ncO), .ref quOA, .int (iI nwO), .int (iI ruO)], oB hOs 3 [.ref kOsA, .ref dOsA, .ref mOsA, .int (iI nOs)], aI t kOsA 120 kOs, aI t dOsA 120 dOs, aZ t mOsA 120 mOs, aI t liOA 120 liO, aI t quOA 30 quO]
abbrev po_X1_becomeCopyOf (Q : (Int) → (Int) → (Int) → (Int) → (Int) → (Nat → Int) → (Nat → Int) → (Nat → Int) → (Nat → Int) → (Nat → Int) → Prop) (u : (Int) × (Int) × (Int) × (Int) × (Int) × (Nat → Int) × (Nat → Int) × (Nat → Int) × (Nat → Int) × (Nat → Int)) : Prop := Q u.1 u.2.1 u.2.2.1 u.2.2.2.1 u.2.2.2.2.1 u.2.2.2.2.2.1 u.2.2.2.2.2.2.1 u.2.2.2.2.2.2.2.1 u.2.2.2.2.2.2.2.2.1 u.2.2.2.2.2.2.2.2.2
abbrev rm_X1_becomeCopyOf : Room := { frames := 2, cells := 0, slots := 0, locals := 81 }
def wp_X1_becomeCopyOf (nlj : Int) (ncj : Int) (nwj : Int) (ruj : Int) (njs : Int) (kjs : Nat → Int) (djs : Nat → Int) (mjs : Nat → Int) (lij : Nat → Int) (quj : Nat → Int) (nlO : Int) (ncO : Int) (nwO : Int) (ruO : Int) (nOs : Int) (kOs : Nat → Int) (dOs : Nat → Int) (mOs : Nat → Int) (liO : Nat → Int) (quO : Nat → Int) (Q : (Int) → (Int) → (Int) → (Int) → (Int) → (Nat → Int) → (Nat → Int) → (Nat → Int) → (Nat → Int) → (Nat → Int) → Prop) : Prop := wp_X3_becomeCopyOf njs kjs djs mjs nOs kOs dOs mOs (fun njs_1 kjs_1 djs_1 mjs_1 => (ruO = 0 ∨ ruO = 1) ∧ (0 ≤ (0 : Int) ∧ 0 ≤ (0 : Int) ∧ 0 ≤ nlO) ∧ ((0 : Int) + nlO ≤ 120 ∧ (0 : Int) + nlO ≤ 120) ∧ (0 ≤ (0 : Int) ∧ 0 ≤ (0 : Int) ∧ 0 ≤ nwO) ∧ ((0 : Int) + nwO ≤ 30 ∧ (0 : Int) + nwO ≤ 30) ∧ Q nlO ncO nwO ruO njs_1 kjs_1 djs_1 mjs_1 (cpI liO lij 0 0 (nlO.toNat)) (cpI quO quj 0 0 (nwO.toNat)))
theorem m_X1_becomeCopyOf_12 : Cond.fieldLink RX1 12 "BackgroundRebuild$Rebuild" "secondTree" "LBackgroundRebuild$Tree;" ∈ wsX1_becomeCopyOf := by decide +kernel
theorem m_X1_becomeCopyOf_29 : Cond.fieldLink RX1 29 "BackgroundRebuild$Rebuild" "listed" "I" ∈ wsX1_becomeCopyOf := by decide +kernel
theorem m_X1_becomeCopyOf_33 : Cond.fieldLink RX1 33 "BackgroundRebuild$Rebuild" "copied" "I" ∈ wsX1_becomeCopyOf := by decide +kernel
theorem m_X1_becomeCopyOf_36 : Cond.fieldLink RX1 36 "BackgroundRebuild$Rebuild" "waiting" "I" ∈ wsX1_becomeCopyOf := by decide +kernel
theorem m_X1_becomeCopyOf_39 : Cond.fieldLink RX1 39 "BackgroundRebuild$Rebuild" "running" "Z" ∈ wsX1_becomeCopyOf := by decide +kernel
theorem m_X1_becomeCopyOf_18 : Cond.fieldLink RX1 18 "BackgroundRebuild$Rebuild" "list" "[I" ∈ wsX1_becomeCopyOf := by decide +kernel
theorem m_X1_becomeCopyOf_ac43 : Cond.methodLink RX1 43 arraycopyName ∈ wsX1_becomeCopyOf := by decide +kernel
theorem m_X1_becomeCopyOf_acn : Cond.native arraycopyName ∈ wsX1_becomeCopyOf := by decide +kernel
theorem m_X1_becomeCopyOf_acs : Cond.static arraycopyName ∈ wsX1_becomeCopyOf := by decide +kernel
theorem m_X1_becomeCopyOf_aci : Cond.initialized "java/lang/System" ∈ wsX1_becomeCopyOf := by decide +kernel
theorem m_X1_becomeCopyOf_22 : Cond.fieldLink RX1 22 "BackgroundRebuild$Rebuild" "queue" "[I" ∈ wsX1_becomeCopyOf := by decide +kernel
theorem i_X1_becomeCopyOf_1 : ∀ w ∈ u_ws RX1 TX1 7, w ∈ wsX1_becomeCopyOf := by decide +kernel
theorem ok_X1_becomeCopyOf : yX1_becomeCopyOf.cls = RX1 ∧ yX1_becomeCopyOf.cls ≠ "java/lang/invoke/MethodHandle" ∧ yX1_becomeCopyOf.cls ≠ "java/lang/invoke/VarHandle" ∧ (parseMethodDescriptor yX1_becomeCopyOf.desc).map (fun d => d.parameters.length) = some 1 := by decide +kernel
set_option maxHeartbeats 4000000 in
set_option maxRecDepth 100000 in
theorem met_X1_becomeCopyOf (l : Launch) (D : va_G) (t : Nat → ClassId) (hj : Nat) (hjs : Nat) (lijA : Nat) (qujA : Nat) (kjsA : Nat) (djsA : Nat) (mjsA : Nat) (hO : Nat) (hOs : Nat) (liOA : Nat) (quOA : Nat) (kOsA : Nat) (dOsA : Nat) (mOsA : Nat) (nlj : Int) (ncj : Int) (nwj : Int) (ruj : Int) (njs : Int) (kjs : Nat → Int) (djs : Nat → Int) (mjs : Nat → Int) (lij : Nat → Int) (quj : Nat → Int) (nlO : Int) (ncO : Int) (nwO : Int) (ruO : Int) (nOs : Int) (kOs : Nat → Int) (dOs : Nat → Int) (mOs : Nat → Int) (liO : Nat → Int) (quO : Nat → Int) (Q : (Int) → (Int) → (Int) → (Int) → (Int) → (Nat → Int) → (Nat → Int) → (Nat → Int) → (Nat → Int) → (Nat → Int) → Prop) (hv : wp_X1_becomeCopyOf nlj ncj nwj ruj njs kjs djs mjs lij quj nlO ncO nwO ruO nOs kOs dOs mOs liO quO Q) : MV l D t yX1_becomeCopyOf wsX1_becomeCopyOf rm_X1_becomeCopyOf [.ref hj, .ref hO] [oB hj 1 [.ref hjs, .ref lijA, .int (iI nlj), .int (iI ncj), .ref qujA, .int (iI nwj), .int (iI ruj)], oB hjs 3 [.ref kjsA, .ref djsA, .ref mjsA, .int (iI njs)], aI t kjsA 120 kjs, aI t djsA 120 djs, aZ t mjsA 120 mjs, aI t lijA 120 lij, aI t qujA 30 quj, oB hO 1 [.ref hOs, .ref liOA, .int (iI nlO), .int (iI ncO), .ref quOA, .int (iI nwO), .int (iI ruO)], oB hOs 3 [.ref kOsA, .ref dOsA, .ref mOsA, .int (iI nOs)], aI t kOsA 120 kOs, aI t dOsA 120 dOs, aZ t mOsA 120 mOs, aI t liOA 120 liO, aI t quOA 30 quO] (W1_X1_becomeCopyOf t hj hjs lijA qujA kjsA djsA mjsA hO hOs liOA quOA kOsA dOsA mOsA nlO ncO nwO ruO nOs kOs dOs mOs liO quO) (po_X1_becomeCopyOf Q) 0 0 := by
  refine M_ofv (cc := cX1_becomeCopyOf) (nL := 2) (by decide) rfl (Nat.le_of_ble_eq_true rfl) ?_
  intro p e s m args below meth c A hc hr
  refine V_lv [0, 1] [(0, .ref hj), (1, .ref hO)] rfl ?_
  unfold wp_X1_becomeCopyOf at hv
  refine V_aload_n hc dX1_becomeCopyOf_0 0 rfl ?_
  refine V_get (C := RX1) (T := TX1) (N := 7) hc i_X1_becomeCopyOf_1 0 rfl rfl 0 (by decide) m_X1_becomeCopyOf_12 rfl dX1_becomeCopyOf_1 ?_
  refine V_aload_n hc dX1_becomeCopyOf_4 1 rfl ?_
  refine V_get (C := RX1) (T := TX1) (N := 7) hc i_X1_becomeCopyOf_1 7 rfl rfl 0 (by decide) m_X1_becomeCopyOf_12 rfl dX1_becomeCopyOf_5 ?_
  refine V_callVV (As := [.ref hOs]) hc (wc := [oB hjs 3 [.ref kjsA, .ref djsA, .ref mjsA, .int (iI njs)], aI t kjsA 120 kjs, aI t djsA 120 djs, aZ t mjsA 120 mjs, oB hOs 3 [.ref kOsA, .ref dOsA, .ref mOsA, .int (iI nOs)], aI t kOsA 120 kOs, aI t dOsA 120 dOs, aZ t mOsA 120 mOs]) (wr := [oB hj 1 [.ref hjs, .ref lijA, .int (iI nlj), .int (iI ncj), .ref qujA, .int (iI nwj), .int (iI ruj)], aI t lijA 120 lij, aI t qujA 30 quj, oB hO 1 [.ref hOs, .ref liOA, .int (iI nlO), .int (iI ncO), .ref quOA, .int (iI nwO), .int (iI ruO)], aI t liOA 120 liO, aI t quOA 30 quO]) (pmI (ws := [oB hj 1 [.ref hjs, .ref lijA, .int (iI nlj), .int (iI ncj), .ref qujA, .int (iI nwj), .int (iI ruj)], oB hjs 3 [.ref kjsA, .ref djsA, .ref mjsA, .int (iI njs)], aI t kjsA 120 kjs, aI t djsA 120 djs, aZ t mjsA 120 mjs, aI t lijA 120 lij, aI t qujA 30 quj, oB hO 1 [.ref hOs, .ref liOA, .int (iI nlO), .int (iI ncO), .ref quOA, .int (iI nwO), .int (iI ruO)], oB hOs 3 [.ref kOsA, .ref dOsA, .ref mOsA, .int (iI nOs)], aI t kOsA 120 kOs, aI t dOsA 120 dOs, aZ t mOsA 120 mOs, aI t liOA 120 liO, aI t quOA 30 quO]) (ws1 := [oB hjs 3 [.ref kjsA, .ref djsA, .ref mjsA, .int (iI njs)], aI t kjsA 120 kjs, aI t djsA 120 djs, aZ t mjsA 120 mjs, oB hOs 3 [.ref kOsA, .ref dOsA, .ref mOsA, .int (iI nOs)], aI t kOsA 120 kOs, aI t dOsA 120 dOs, aZ t mOsA 120 mOs] ++ [oB hj 1 [.ref hjs, .ref lijA, .int (iI nlj), .int (iI ncj), .ref qujA, .int (iI nwj), .int (iI ruj)], aI t lijA 120 lij, aI t qujA 30 quj, oB hO 1 [.ref hOs, .ref liOA, .int (iI nlO), .int (iI ncO), .ref quOA, .int (iI nwO), .int (iI ruO)], aI t liOA 120 liO, aI t quOA 30 quO]) [1, 2, 3, 4, 8, 9, 10, 11, 0, 5, 6, 7, 12, 13] 14 rfl (by decide +kernel) rfl) rfl rfl (met_X3_becomeCopyOf l D t hjs kjsA djsA mjsA hOs kOsA dOsA mOsA njs kjs djs mjs nOs kOs dOs mOs _ hv) rfl gX1_becomeCopyOf_X3_becomeCopyOf rfl ⟨rfl, rfl⟩ ok_X3_becomeCopyOf (by decide) (Nat.le_of_ble_eq_true rfl) dX1_becomeCopyOf_8 (by decide) (fun u9 hv => ?_)
  obtain ⟨njs_1, kjs_1, djs_1, mjs_1⟩ := u9
  try dsimp only at hv
  refine V_perm (ws1 := [oB hj 1 [.ref hjs, .ref lijA, .int (iI nlj), .int (iI ncj), .ref qujA, .int (iI nwj), .int (iI ruj)], oB hjs 3 [.ref kjsA, .ref djsA, .ref mjsA, .int (iI njs_1)], aI t kjsA 120 kjs_1, aI t djsA 120 djs_1, aZ t mjsA 120 mjs_1, aI t lijA 120 lij, aI t qujA 30 quj, oB hO 1 [.ref hOs, .ref liOA, .int (iI nlO), .int (iI ncO), .ref quOA, .int (iI nwO), .int (iI ruO)], oB hOs 3 [.ref kOsA, .ref dOsA, .ref mOsA, .int (iI nOs)], aI t kOsA 120 kOs, aI t dOsA 120 dOs, aZ t mOsA 120 mOs, aI t liOA 120 liO, aI t quOA 30 quO]) (pmI (ws := [oB hjs 3 [.ref kjsA, .ref djsA, .ref mjsA, .int (iI njs_1)], aI t kjsA 120 kjs_1, aI t djsA 120 djs_1, aZ t mjsA 120 mjs_1, oB hOs 3 [.ref kOsA, .ref dOsA, .ref mOsA, .int (iI nOs)], aI t kOsA 120 kOs, aI t dOsA 120 dOs, aZ t mOsA 120 mOs] ++ [oB hj 1 [.ref hjs, .ref lijA, .int (iI nlj), .int (iI ncj), .ref qujA, .int (iI nwj), .int (iI ruj)], aI t lijA 120 lij, aI t qujA 30 quj, oB hO 1 [.ref hOs, .ref liOA, .int (iI nlO), .int (iI ncO), .ref quOA, .int (iI nwO), .int (iI ruO)], aI t liOA 120 liO, aI t quOA 30 quO]) (ws1 := [oB hj 1 [.ref hjs, .ref lijA, .int (iI nlj), .int (iI ncj), .ref qujA, .int (iI nwj), .int (iI ruj)], oB hjs 3 [.ref kjsA, .ref djsA, .ref mjsA, .int (iI njs_1)], aI t kjsA 120 kjs_1, aI t djsA 120 djs_1, aZ t mjsA 120 mjs_1, aI t lijA 120 lij, aI t qujA 30 quj, oB hO 1 [.ref hOs, .ref liOA, .int (iI nlO), .int (iI ncO), .ref quOA, .int (iI nwO), .int (iI ruO)], oB hOs 3 [.ref kOsA, .ref dOsA, .ref mOsA, .int (iI nOs)], aI t kOsA 120 kOs, aI t dOsA 120 dOs, aZ t mOsA 120 mOs, aI t liOA 120 liO, aI t quOA 30 quO]) [8, 0, 1, 2, 3, 9, 10, 11, 4, 5, 6, 7, 12, 13] 14 rfl (by decide +kernel) rfl) ?_
  refine V_aload_n hc dX1_becomeCopyOf_11 0 rfl ?_
  refine V_aload_n hc dX1_becomeCopyOf_12 1 rfl ?_
  refine V_get (C := RX1) (T := TX1) (N := 7) hc i_X1_becomeCopyOf_1 7 rfl rfl 2 (by decide) m_X1_becomeCopyOf_29 rfl dX1_becomeCopyOf_13 ?_
  refine V_puti (C := RX1) (T := TX1) (N := 7) hc i_X1_becomeCopyOf_1 0 rfl rfl 2 (by decide) m_X1_becomeCopyOf_29 tyX1 tyX1_ok nmX1 rfl (by decide +kernel) (Nat.le_of_ble_eq_true rfl) dX1_becomeCopyOf_16 [oB hj 1 [.ref hjs, .ref lijA, .int (iI nlO), .int (iI ncj), .ref qujA, .int (iI nwj), .int (iI ruj)], oB hjs 3 [.ref kjsA, .ref djsA, .ref mjsA, .int (iI njs_1)], aI t kjsA 120 kjs_1, aI t djsA 120 djs_1, aZ t mjsA 120 mjs_1, aI t lijA 120 lij, aI t qujA 30 quj, oB hO 1 [.ref hOs, .ref liOA, .int (iI nlO), .int (iI ncO), .ref quOA, .int (iI nwO), .int (iI ruO)], oB hOs 3 [.ref kOsA, .ref dOsA, .ref mOsA, .int (iI nOs)], aI t kOsA 120 kOs, aI t dOsA 120 dOs, aZ t mOsA 120 mOs, aI t liOA 120 liO, aI t quOA 30 quO] rfl ?_
  refine V_aload_n hc dX1_becomeCopyOf_19 0 rfl ?_
  refine V_aload_n hc dX1_becomeCopyOf_20 1 rfl ?_
  refine V_get (C := RX1) (T := TX1) (N := 7) hc i_X1_becomeCopyOf_1 7 rfl rfl 3 (by decide) m_X1_becomeCopyOf_33 rfl dX1_becomeCopyOf_21 ?_
  refine V_puti (C := RX1) (T := TX1) (N := 7) hc i_X1_becomeCopyOf_1 0 rfl rfl 3 (by decide) m_X1_becomeCopyOf_33 tyX1 tyX1_ok nmX1 rfl (by decide +kernel) (Nat.le_of_ble_eq_true rfl) dX1_becomeCopyOf_24 [oB hj 1 [.ref hjs, .ref lijA, .int (iI nlO), .int (iI ncO), .ref qujA, .int (iI nwj), .int (iI ruj)], oB hjs 3 [.ref kjsA, .ref djsA, .ref mjsA, .int (iI njs_1)], aI t kjsA 120 kjs_1, aI t djsA 120 djs_1, aZ t mjsA 120 mjs_1, aI t lijA 120 lij, aI t qujA 30 quj, oB hO 1 [.ref hOs, .ref liOA, .int (iI nlO), .int (iI ncO), .ref quOA, .int (iI nwO), .int (iI ruO)], oB hOs 3 [.ref kOsA, .ref dOsA, .ref mOsA, .int (iI nOs)], aI t kOsA 120 kOs, aI t dOsA 120 dOs, aZ t mOsA 120 mOs, aI t liOA 120 liO, aI t quOA 30 quO] rfl ?_
  refine V_aload_n hc dX1_becomeCopyOf_27 0 rfl ?_
  refine V_aload_n hc dX1_becomeCopyOf_28 1 rfl ?_
  refine V_get (C := RX1) (T := TX1) (N := 7) hc i_X1_becomeCopyOf_1 7 rfl rfl 5 (by decide) m_X1_becomeCopyOf_36 rfl dX1_becomeCopyOf_29 ?_
  refine V_puti (C := RX1) (T := TX1) (N := 7) hc i_X1_becomeCopyOf_1 0 rfl rfl 5 (by decide) m_X1_becomeCopyOf_36 tyX1 tyX1_ok nmX1 rfl (by decide +kernel) (Nat.le_of_ble_eq_true rfl) dX1_becomeCopyOf_32 [oB hj 1 [.ref hjs, .ref lijA, .int (iI nlO), .int (iI ncO), .ref qujA, .int (iI nwO), .int (iI ruj)], oB hjs 3 [.ref kjsA, .ref djsA, .ref mjsA, .int (iI njs_1)], aI t kjsA 120 kjs_1, aI t djsA 120 djs_1, aZ t mjsA 120 mjs_1, aI t lijA 120 lij, aI t qujA 30 quj, oB hO 1 [.ref hOs, .ref liOA, .int (iI nlO), .int (iI ncO), .ref quOA, .int (iI nwO), .int (iI ruO)], oB hOs 3 [.ref kOsA, .ref dOsA, .ref mOsA, .int (iI nOs)], aI t kOsA 120 kOs, aI t dOsA 120 dOs, aZ t mOsA 120 mOs, aI t liOA 120 liO, aI t quOA 30 quO] rfl ?_
  refine V_aload_n hc dX1_becomeCopyOf_35 0 rfl ?_
  refine V_aload_n hc dX1_becomeCopyOf_36 1 rfl ?_
  refine V_get (C := RX1) (T := TX1) (N := 7) hc i_X1_becomeCopyOf_1 7 rfl rfl 6 (by decide) m_X1_becomeCopyOf_39 rfl dX1_becomeCopyOf_37 ?_
  refine V_putz (C := RX1) (T := TX1) (N := 7) hc i_X1_becomeCopyOf_1 0 rfl rfl 6 (by decide) m_X1_becomeCopyOf_39 tyX1 tyX1_ok nmX1 hv rfl (by decide +kernel) (Nat.le_of_ble_eq_true rfl) dX1_becomeCopyOf_40 [oB hj 1 [.ref hjs, .ref lijA, .int (iI nlO), .int (iI ncO), .ref qujA, .int (iI nwO), .int (iI ruO)], oB hjs 3 [.ref kjsA, .ref djsA, .ref mjsA, .int (iI njs_1)], aI t kjsA 120 kjs_1, aI t djsA 120 djs_1, aZ t mjsA 120 mjs_1, aI t lijA 120 lij, aI t qujA 30 quj, oB hO 1 [.ref hOs, .ref liOA, .int (iI nlO), .int (iI ncO), .ref quOA, .int (iI nwO), .int (iI ruO)], oB hOs 3 [.ref kOsA, .ref dOsA, .ref mOsA, .int (iI nOs)], aI t kOsA 120 kOs, aI t dOsA 120 dOs, aZ t mOsA 120 mOs, aI t liOA 120 liO, aI t quOA 30 quO] rfl (fun hv => ?_)
  refine V_aload_n hc dX1_becomeCopyOf_43 1 rfl ?_
  refine V_get (C := RX1) (T := TX1) (N := 7) hc i_X1_becomeCopyOf_1 7 rfl rfl 1 (by decide) m_X1_becomeCopyOf_18 rfl dX1_becomeCopyOf_44 ?_
  refine V_iconst hc dX1_becomeCopyOf_47 ?_
  refine V_aload_n hc dX1_becomeCopyOf_48 0 rfl ?_
  refine V_get (C := RX1) (T := TX1) (N := 7) hc i_X1_becomeCopyOf_1 0 rfl rfl 1 (by decide) m_X1_becomeCopyOf_18 rfl dX1_becomeCopyOf_49 ?_
  refine V_iconst hc dX1_becomeCopyOf_52 ?_
  refine V_aload_n hc dX1_becomeCopyOf_53 0 rfl ?_
  refine V_get (C := RX1) (T := TX1) (N := 7) hc i_X1_becomeCopyOf_1 0 rfl rfl 2 (by decide) m_X1_becomeCopyOf_29 rfl dX1_becomeCopyOf_54 ?_
  refine V_copyi hc m_X1_becomeCopyOf_ac43 m_X1_becomeCopyOf_acn m_X1_becomeCopyOf_acs m_X1_becomeCopyOf_aci 12 5 rfl rfl (by decide) (by decide) hv (by decide) (Nat.le_of_ble_eq_true rfl) dX1_becomeCopyOf_57 [oB hj 1 [.ref hjs, .ref lijA, .int (iI nlO), .int (iI ncO), .ref qujA, .int (iI nwO), .int (iI ruO)], oB hjs 3 [.ref kjsA, .ref djsA, .ref mjsA, .int (iI njs_1)], aI t kjsA 120 kjs_1, aI t djsA 120 djs_1, aZ t mjsA 120 mjs_1, aI t lijA 120 (cpI liO lij 0 0 (nlO.toNat)), aI t qujA 30 quj, oB hO 1 [.ref hOs, .ref liOA, .int (iI nlO), .int (iI ncO), .ref quOA, .int (iI nwO), .int (iI ruO)], oB hOs 3 [.ref kOsA, .ref dOsA, .ref mOsA, .int (iI nOs)], aI t kOsA 120 kOs, aI t dOsA 120 dOs, aZ t mOsA 120 mOs, aI t liOA 120 liO, aI t quOA 30 quO] rfl (fun hv => ?_)
  refine V_aload_n hc dX1_becomeCopyOf_60 1 rfl ?_
  refine V_get (C := RX1) (T := TX1) (N := 7) hc i_X1_becomeCopyOf_1 7 rfl rfl 4 (by decide) m_X1_becomeCopyOf_22 rfl dX1_becomeCopyOf_61 ?_
  refine V_iconst hc dX1_becomeCopyOf_64 ?_
  refine V_aload_n hc dX1_becomeCopyOf_65 0 rfl ?_
  refine V_get (C := RX1) (T := TX1) (N := 7) hc i_X1_becomeCopyOf_1 0 rfl rfl 4 (by decide) m_X1_becomeCopyOf_22 rfl dX1_becomeCopyOf_66 ?_
  refine V_iconst hc dX1_becomeCopyOf_69 ?_
  refine V_aload_n hc dX1_becomeCopyOf_70 0 rfl ?_
  refine V_get (C := RX1) (T := TX1) (N := 7) hc i_X1_becomeCopyOf_1 0 rfl rfl 5 (by decide) m_X1_becomeCopyOf_36 rfl dX1_becomeCopyOf_71 ?_
  refine V_copyi hc m_X1_becomeCopyOf_ac43 m_X1_becomeCopyOf_acn m_X1_becomeCopyOf_acs m_X1_becomeCopyOf_aci 13 6 rfl rfl (by decide) (by decide) hv (by decide) (Nat.le_of_ble_eq_true rfl) dX1_becomeCopyOf_74 [oB hj 1 [.ref hjs, .ref lijA, .int (iI nlO), .int (iI ncO), .ref qujA, .int (iI nwO), .int (iI ruO)], oB hjs 3 [.ref kjsA, .ref djsA, .ref mjsA, .int (iI njs_1)], aI t kjsA 120 kjs_1, aI t djsA 120 djs_1, aZ t mjsA 120 mjs_1, aI t lijA 120 (cpI liO lij 0 0 (nlO.toNat)), aI t qujA 30 (cpI quO quj 0 0 (nwO.toNat)), oB hO 1 [.ref hOs, .ref liOA, .int (iI nlO), .int (iI ncO), .ref quOA, .int (iI nwO), .int (iI ruO)], oB hOs 3 [.ref kOsA, .ref dOsA, .ref mOsA, .int (iI nOs)], aI t kOsA 120 kOs, aI t dOsA 120 dOs, aZ t mOsA 120 mOs, aI t liOA 120 liO, aI t quOA 30 quO] rfl (fun hv => ?_)
  exact V_vret hc hr (nlO, ncO, nwO, ruO, njs_1, kjs_1, djs_1, mjs_1, cpI liO lij 0 0 (nlO.toNat), cpI quO quj 0 0 (nwO.toNat)) hv rfl dX1_becomeCopyOf_77
abbrev W1_X1_stop (t : Nat → ClassId) (hj : Nat) (hjs : Nat) (lijA : Nat) (qujA : Nat) (kjsA : Nat) (djsA : Nat) (mjsA : Nat) (kjs : Nat → Int) (djs : Nat → Int) (mjs : Nat → Int) (lij : Nat → Int) (quj : Nat → Int) (u : (Int) × (Int) × (Int) × (Int) × (Int)) : va_W := [oB hj 1 [.ref hjs, .ref lijA, .int (iI u.1), .int (iI u.2.1), .ref qujA, .int (iI u.2.2.1), .int (iI u.2.2.2.1)], oB hjs 3 [.ref kjsA, .ref djsA, .ref mjsA, .int (iI u.2.2.2.2)], aI t kjsA 120 kjs, aI t djsA 120 djs, aZ t mjsA 120 mjs, aI t lijA 120 lij, aI t qujA 30 quj]
abbrev po_X1_stop (Q : (Int) → (Int) → (Int) → (Int) → (Int) → Prop) (u : (Int) × (Int) × (Int) × (Int) × (Int)) : Prop := Q u.1 u.2.1 u.2.2.1 u.2.2.2.1 u.2.2.2.2
abbrev rm_X1_stop : Room := { frames := 0, cells := 0, slots := 0, locals := 0 }
def wp_X1_stop (nlj : Int) (ncj : Int) (nwj : Int) (ruj : Int) (njs : Int) (Q : (Int) → (Int) → (Int) → (Int) → (Int) → Prop) : Prop := Q 0 0 0 0 0
theorem m_X1_stop_12 : Cond.fieldLink RX1 12 "BackgroundRebuild$Rebuild" "secondTree" "LBackgroundRebuild$Tree;" ∈ wsX1_stop := by decide +kernel
theorem m_X1_stop_49 : Cond.fieldLink RX1 49 "BackgroundRebuild$Tree" "nodes" "I" ∈ wsX1_stop := by decide +kernel
theorem m_X1_stop_29 : Cond.fieldLink RX1 29 "BackgroundRebuild$Rebuild" "listed" "I" ∈ wsX1_stop := by decide +kernel
theorem m_X1_stop_33 : Cond.fieldLink RX1 33 "BackgroundRebuild$Rebuild" "copied" "I" ∈ wsX1_stop := by decide +kernel
theorem m_X1_stop_36 : Cond.fieldLink RX1 36 "BackgroundRebuild$Rebuild" "waiting" "I" ∈ wsX1_stop := by decide +kernel
theorem m_X1_stop_39 : Cond.fieldLink RX1 39 "BackgroundRebuild$Rebuild" "running" "Z" ∈ wsX1_stop := by decide +kernel
theorem i_X1_stop_1 : ∀ w ∈ u_ws RX1 TX1 7, w ∈ wsX1_stop := by decide +kernel
theorem i_X1_stop_3 : ∀ w ∈ u_ws RX3 TX3 4, w ∈ wsX1_stop := by decide +kernel
theorem ok_X1_stop : yX1_stop.cls = RX1 ∧ yX1_stop.cls ≠ "java/lang/invoke/MethodHandle" ∧ yX1_stop.cls ≠ "java/lang/invoke/VarHandle" ∧ (parseMethodDescriptor yX1_stop.desc).map (fun d => d.parameters.length) = some 0 := by decide +kernel
set_option maxHeartbeats 4000000 in
set_option maxRecDepth 100000 in
theorem met_X1_stop (l : Launch) (D : va_G) (t : Nat → ClassId) (hj : Nat) (hjs : Nat) (lijA : Nat) (qujA : Nat) (kjsA : Nat) (djsA : Nat) (mjsA : Nat) (nlj : Int) (ncj : Int) (nwj : Int) (ruj : Int) (njs : Int) (kjs : Nat → Int) (djs : Nat → Int) (mjs : Nat → Int) (lij : Nat → Int) (quj : Nat → Int) (Q : (Int) → (Int) → (Int) → (Int) → (Int) → Prop) (hv : wp_X1_stop nlj ncj nwj ruj njs Q) : MV l D t yX1_stop wsX1_stop rm_X1_stop [.ref hj] [oB hj 1 [.ref hjs, .ref lijA, .int (iI nlj), .int (iI ncj), .ref qujA, .int (iI nwj), .int (iI ruj)], oB hjs 3 [.ref kjsA, .ref djsA, .ref mjsA, .int (iI njs)], aI t kjsA 120 kjs, aI t djsA 120 djs, aZ t mjsA 120 mjs, aI t lijA 120 lij, aI t qujA 30 quj] (W1_X1_stop t hj hjs lijA qujA kjsA djsA mjsA kjs djs mjs lij quj) (po_X1_stop Q) 0 0 := by
  refine M_ofv (cc := cX1_stop) (nL := 1) (by decide) rfl (Nat.le_of_ble_eq_true rfl) ?_
  intro p e s m args below meth c A hc hr
  refine V_lv [0] [(0, .ref hj)] rfl ?_
  unfold wp_X1_stop at hv
  refine V_aload_n hc dX1_stop_0 0 rfl ?_
  refine V_get (C := RX1) (T := TX1) (N := 7) hc i_X1_stop_1 0 rfl rfl 0 (by decide) m_X1_stop_12 rfl dX1_stop_1 ?_
  refine V_iconst hc dX1_stop_4 ?_
  refine V_puti (C := RX3) (T := TX3) (N := 4) hc i_X1_stop_3 1 rfl rfl 3 (by decide) m_X1_stop_49 tyX3 tyX3_ok nmX3 rfl (by decide +kernel) (Nat.le_of_ble_eq_true rfl) dX1_stop_5 [oB hj 1 [.ref hjs, .ref lijA, .int (iI nlj), .int (iI ncj), .ref qujA, .int (iI nwj), .int (iI ruj)], oB hjs 3 [.ref kjsA, .ref djsA, .ref mjsA, .int (iI 0)], aI t kjsA 120 kjs, aI t djsA 120 djs, aZ t mjsA 120 mjs, aI t lijA 120 lij, aI t qujA 30 quj] rfl ?_
  refine V_aload_n hc dX1_stop_8 0 rfl ?_
  refine V_iconst hc dX1_stop_9 ?_
  refine V_puti (C := RX1) (T := TX1) (N := 7) hc i_X1_stop_1 0 rfl rfl 2 (by decide) m_X1_stop_29 tyX1 tyX1_ok nmX1 rfl (by decide +kernel) (Nat.le_of_ble_eq_true rfl) dX1_stop_10 [oB hj 1 [.ref hjs, .ref lijA, .int (iI 0), .int (iI ncj), .ref qujA, .int (iI nwj), .int (iI ruj)], oB hjs 3 [.ref kjsA, .ref djsA, .ref mjsA, .int (iI 0)], aI t kjsA 120 kjs, aI t djsA 120 djs, aZ t mjsA 120 mjs, aI t lijA 120 lij, aI t qujA 30 quj] rfl ?_
  refine V_aload_n hc dX1_stop_13 0 rfl ?_
  refine V_iconst hc dX1_stop_14 ?_
  refine V_puti (C := RX1) (T := TX1) (N := 7) hc i_X1_stop_1 0 rfl rfl 3 (by decide) m_X1_stop_33 tyX1 tyX1_ok nmX1 rfl (by decide +kernel) (Nat.le_of_ble_eq_true rfl) dX1_stop_15 [oB hj 1 [.ref hjs, .ref lijA, .int (iI 0), .int (iI 0), .ref qujA, .int (iI nwj), .int (iI ruj)], oB hjs 3 [.ref kjsA, .ref djsA, .ref mjsA, .int (iI 0)], aI t kjsA 120 kjs, aI t djsA 120 djs, aZ t mjsA 120 mjs, aI t lijA 120 lij, aI t qujA 30 quj] rfl ?_
  refine V_aload_n hc dX1_stop_18 0 rfl ?_
  refine V_iconst hc dX1_stop_19 ?_
  refine V_puti (C := RX1) (T := TX1) (N := 7) hc i_X1_stop_1 0 rfl rfl 5 (by decide) m_X1_stop_36 tyX1 tyX1_ok nmX1 rfl (by decide +kernel) (Nat.le_of_ble_eq_true rfl) dX1_stop_20 [oB hj 1 [.ref hjs, .ref lijA, .int (iI 0), .int (iI 0), .ref qujA, .int (iI 0), .int (iI ruj)], oB hjs 3 [.ref kjsA, .ref djsA, .ref mjsA, .int (iI 0)], aI t kjsA 120 kjs, aI t djsA 120 djs, aZ t mjsA 120 mjs, aI t lijA 120 lij, aI t qujA 30 quj] rfl ?_
  refine V_aload_n hc dX1_stop_23 0 rfl ?_
  refine V_iconst hc dX1_stop_24 ?_
  refine V_putz (C := RX1) (T := TX1) (N := 7) hc i_X1_stop_1 0 rfl rfl 6 (by decide) m_X1_stop_39 tyX1 tyX1_ok nmX1 (X := True) ⟨by decide, trivial⟩ rfl (by decide +kernel) (Nat.le_of_ble_eq_true rfl) dX1_stop_25 [oB hj 1 [.ref hjs, .ref lijA, .int (iI 0), .int (iI 0), .ref qujA, .int (iI 0), .int (iI 0)], oB hjs 3 [.ref kjsA, .ref djsA, .ref mjsA, .int (iI 0)], aI t kjsA 120 kjs, aI t djsA 120 djs, aZ t mjsA 120 mjs, aI t lijA 120 lij, aI t qujA 30 quj] rfl (fun _ => ?_)
  exact V_vret hc hr (0, 0, 0, 0, 0) hv rfl dX1_stop_28
abbrev W1_X1_placeInList (t : Nat → ClassId) (u : Unit) : va_W := []
abbrev po_X1_placeInList (Q : Int → Prop) (r : Int) (u : Unit) : Prop := Q r
abbrev rm_X1_placeInList : Room := { frames := 0, cells := 0, slots := 0, locals := 0 }
def wp_X1_placeInList_10 (x0 : Int) (Q : Int → Prop) (K_10 : Int → Int → Int → Int → Prop) (x2 : Int) (x3 : Int) (x4 : Int) (x5 : Int) : Prop := inR x5 ∧ (x5 ≥ 120 → Q x4) ∧ (¬ (x5 ≥ 120) → (0 ≤ x3 - x2 ∧ x3 - x2 ≤ 2147483647) ∧ inR x0 ∧ inR (x2 + ((x3 - x2) / 2)) ∧ (x0 ≠ x2 + ((x3 - x2) / 2) → inR x0 ∧ inR (x2 + ((x3 - x2) / 2)) ∧ (x0 ≥ x2 + ((x3 - x2) / 2) → K_10 ((x2 + ((x3 - x2) / 2)) + 1) x3 (x4 + (((x2 + ((x3 - x2) / 2)) - x2) + 1)) (x5 + 1)) ∧ (¬ (x0 ≥ x2 + ((x3 - x2) / 2)) → K_10 x2 (x2 + ((x3 - x2) / 2)) (x4 + 1) (x5 + 1))) ∧ (¬ (x0 ≠ x2 + ((x3 - x2) / 2)) → Q x4))
def wp_X1_placeInList (x0 : Int) (x1 : Int) (Q : Int → Prop) : Prop := (∃ n, lq4 (wp_X1_placeInList_10 x0 Q) n 0 x1 0 0)
theorem ok_X1_placeInList : yX1_placeInList.cls ≠ "java/lang/invoke/MethodHandle" ∧ yX1_placeInList.cls ≠ "java/lang/invoke/VarHandle" ∧ (parseMethodDescriptor yX1_placeInList.desc).map (fun d => d.parameters.length) = some 2 := by decide +kernel
set_option maxHeartbeats 4000000 in
set_option maxRecDepth 100000 in
theorem met_X1_placeInList (l : Launch) (D : va_G) (t : Nat → ClassId) (x0 : Int) (x1 : Int) (Q : Int → Prop) (hv : wp_X1_placeInList x0 x1 Q) : MI l D t yX1_placeInList wsX1_placeInList rm_X1_placeInList [.int (iI x0), .int (iI x1)] [] (W1_X1_placeInList t ) (po_X1_placeInList Q) 0 0 := by
  refine M_ofi (cc := cX1_placeInList) (nL := 7) (by decide) rfl (Nat.le_of_ble_eq_true rfl) ?_
  intro p e s m args below meth c A hc hr
  have L_10 : ∀ (x0 : Int) (n9 : Nat) (x2 : Int) (x3 : Int) (x4 : Int) (x5 : Int), lq4 (wp_X1_placeInList_10 x0 Q) n9 x2 x3 x4 x5 → V p l e rm_X1_placeInList s m args below meth c D A 7 0 0 (MQ below (QI D A (W1_X1_placeInList t ) (po_X1_placeInList Q)) args s 0 0 A) 10 [(0, .int (iI x0)), (2, .int (iI x2)), (3, .int (iI x3)), (4, .int (iI x4)), (5, .int (iI x5))] [] [] := by
    intro x0 n9
    induction n9 with
    | zero =>
      intro x2 x3 x4 x5 hv
      exact hv.elim
    | succ n9 ih =>
      intro x2 x3 x4 x5 hv
      have hv : wp_X1_placeInList_10 x0 Q (lq4 (wp_X1_placeInList_10 x0 Q) n9) x2 x3 x4 x5 := hv
      generalize lq4 (wp_X1_placeInList_10 x0 Q) n9 = K_10 at hv ih
      have hK_10 := ih
      unfold wp_X1_placeInList_10 at hv
      refine V_iload hc dX1_placeInList_10 4 rfl ?_
      refine V_bipush hc dX1_placeInList_12 (by decide) ?_
      refine V_icmp_ge (tgt := 72) hc dX1_placeInList_14 (by decide) ⟨hv.1, by decide, hv.2⟩ (fun hv => ?_) (fun hv => ?_)
      · refine V_iload hc dX1_placeInList_72 3 rfl ?_
        exact V_iret hc hr () hv rfl dX1_placeInList_74
      · refine V_iload_n hc dX1_placeInList_17 1 rfl ?_
        refine V_iload_n hc dX1_placeInList_18 2 rfl ?_
        refine V_iload_n hc dX1_placeInList_19 1 rfl ?_
        refine V_isub hc dX1_placeInList_20 ?_
        refine V_iconst hc dX1_placeInList_21 ?_
        refine V_idiv hc dX1_placeInList_22 ⟨hv.1, by decide, hv.2⟩ (fun hv => ?_)
        refine V_iadd hc dX1_placeInList_23 ?_
        refine V_istore hc dX1_placeInList_24 [(6, .int (iI (x2 + ((x3 - x2) / 2)))), (0, .int (iI x0)), (2, .int (iI x2)), (3, .int (iI x3)), (4, .int (iI x4)), (5, .int (iI x5))] (by decide) rfl ?_
        refine V_iload_n hc dX1_placeInList_26 1 rfl ?_
        refine V_iload hc dX1_placeInList_27 0 rfl ?_
        refine V_icmp_ne (tgt := 35) hc dX1_placeInList_29 (by decide) hv (fun hv => ?_) (fun hv => ?_)
        · refine V_iload_n hc dX1_placeInList_35 1 rfl ?_
          refine V_iload hc dX1_placeInList_36 0 rfl ?_
          refine V_icmp_ge (tgt := 50) hc dX1_placeInList_38 (by decide) hv (fun hv => ?_) (fun hv => ?_)
          · refine V_iload hc dX1_placeInList_50 4 rfl ?_
            refine V_iload hc dX1_placeInList_52 0 rfl ?_
            refine V_iload_n hc dX1_placeInList_54 2 rfl ?_
            refine V_isub hc dX1_placeInList_55 ?_
            refine V_iconst hc dX1_placeInList_56 ?_
            refine V_iadd hc dX1_placeInList_57 ?_
            refine V_iadd hc dX1_placeInList_58 ?_
            refine V_istore hc dX1_placeInList_59 [(4, .int (iI (x4 + (((x2 + ((x3 - x2) / 2)) - x2) + 1)))), (6, .int (iI (x2 + ((x3 - x2) / 2)))), (0, .int (iI x0)), (2, .int (iI x2)), (3, .int (iI x3)), (5, .int (iI x5))] (by decide) rfl ?_
            refine V_iload hc dX1_placeInList_61 1 rfl ?_
            refine V_iconst hc dX1_placeInList_63 ?_
            refine V_iadd hc dX1_placeInList_64 ?_
            refine V_istore_n hc dX1_placeInList_65 [(2, .int (iI ((x2 + ((x3 - x2) / 2)) + 1))), (4, .int (iI (x4 + (((x2 + ((x3 - x2) / 2)) - x2) + 1)))), (6, .int (iI (x2 + ((x3 - x2) / 2)))), (0, .int (iI x0)), (3, .int (iI x3)), (5, .int (iI x5))] (by decide) rfl ?_
            refine V_iinc hc dX1_placeInList_66 5 rfl [(5, .int (iI (x5 + 1))), (2, .int (iI ((x2 + ((x3 - x2) / 2)) + 1))), (4, .int (iI (x4 + (((x2 + ((x3 - x2) / 2)) - x2) + 1)))), (6, .int (iI (x2 + ((x3 - x2) / 2)))), (0, .int (iI x0)), (3, .int (iI x3))] (by decide) rfl ?_
            refine V_goto (tgt := 10) hc dX1_placeInList_69 (by decide) ?_
            refine V_lv [4, 1, 5, 2, 0] [(0, .int (iI x0)), (2, .int (iI ((x2 + ((x3 - x2) / 2)) + 1))), (3, .int (iI x3)), (4, .int (iI (x4 + (((x2 + ((x3 - x2) / 2)) - x2) + 1)))), (5, .int (iI (x5 + 1)))] rfl ?_
            exact hK_10 ((x2 + ((x3 - x2) / 2)) + 1) x3 (x4 + (((x2 + ((x3 - x2) / 2)) - x2) + 1)) (x5 + 1) hv
          · refine V_iinc hc dX1_placeInList_41 4 rfl [(4, .int (iI (x4 + 1))), (6, .int (iI (x2 + ((x3 - x2) / 2)))), (0, .int (iI x0)), (2, .int (iI x2)), (3, .int (iI x3)), (5, .int (iI x5))] (by decide) rfl ?_
            refine V_iload hc dX1_placeInList_44 1 rfl ?_
            refine V_istore_n hc dX1_placeInList_46 [(3, .int (iI (x2 + ((x3 - x2) / 2)))), (4, .int (iI (x4 + 1))), (6, .int (iI (x2 + ((x3 - x2) / 2)))), (0, .int (iI x0)), (2, .int (iI x2)), (5, .int (iI x5))] (by decide) rfl ?_
            refine V_goto (tgt := 66) hc dX1_placeInList_47 (by decide) ?_
            refine V_iinc hc dX1_placeInList_66 5 rfl [(5, .int (iI (x5 + 1))), (3, .int (iI (x2 + ((x3 - x2) / 2)))), (4, .int (iI (x4 + 1))), (6, .int (iI (x2 + ((x3 - x2) / 2)))), (0, .int (iI x0)), (2, .int (iI x2))] (by decide) rfl ?_
            refine V_goto (tgt := 10) hc dX1_placeInList_69 (by decide) ?_
            refine V_lv [4, 5, 1, 2, 0] [(0, .int (iI x0)), (2, .int (iI x2)), (3, .int (iI (x2 + ((x3 - x2) / 2)))), (4, .int (iI (x4 + 1))), (5, .int (iI (x5 + 1)))] rfl ?_
            exact hK_10 x2 (x2 + ((x3 - x2) / 2)) (x4 + 1) (x5 + 1) hv
        · refine V_iload hc dX1_placeInList_32 4 rfl ?_
          exact V_iret hc hr () hv rfl dX1_placeInList_34
  refine V_lv [0, 1] [(0, .int (iI x0)), (1, .int (iI x1))] rfl ?_
  unfold wp_X1_placeInList at hv
  refine V_iconst hc dX1_placeInList_0 ?_
  refine V_istore_n hc dX1_placeInList_1 [(2, .int (iI 0)), (0, .int (iI x0)), (1, .int (iI x1))] (by decide) rfl ?_
  refine V_iload_n hc dX1_placeInList_2 2 rfl ?_
  refine V_istore_n hc dX1_placeInList_3 [(3, .int (iI x1)), (2, .int (iI 0)), (0, .int (iI x0)), (1, .int (iI x1))] (by decide) rfl ?_
  refine V_iconst hc dX1_placeInList_4 ?_
  refine V_istore hc dX1_placeInList_5 [(4, .int (iI 0)), (3, .int (iI x1)), (2, .int (iI 0)), (0, .int (iI x0)), (1, .int (iI x1))] (by decide) rfl ?_
  refine V_iconst hc dX1_placeInList_7 ?_
  refine V_istore hc dX1_placeInList_8 [(5, .int (iI 0)), (4, .int (iI 0)), (3, .int (iI x1)), (2, .int (iI 0)), (0, .int (iI x0)), (1, .int (iI x1))] (by decide) rfl ?_
  refine V_lv [4, 3, 2, 1, 0] [(0, .int (iI x0)), (2, .int (iI 0)), (3, .int (iI x1)), (4, .int (iI 0)), (5, .int (iI 0))] rfl ?_
  obtain ⟨n9, hv⟩ := hv
  exact L_10 x0 n9 0 x1 0 0 hv
abbrev W1_X1_start (t : Nat → ClassId) (hj : Nat) (hjs : Nat) (lijA : Nat) (qujA : Nat) (kjsA : Nat) (djsA : Nat) (mjsA : Nat) (hP : Nat) (kjs : Nat → Int) (djs : Nat → Int) (mjs : Nat → Int) (quj : Nat → Int) (aP : Nat → Int) (u : (Int) × (Int) × (Int) × (Int) × (Int) × (Nat → Int)) : va_W := [oB hj 1 [.ref hjs, .ref lijA, .int (iI u.1), .int (iI u.2.1), .ref qujA, .int (iI u.2.2.1), .int (iI u.2.2.2.1)], oB hjs 3 [.ref kjsA, .ref djsA, .ref mjsA, .int (iI u.2.2.2.2.1)], aI t kjsA 120 kjs, aI t djsA 120 djs, aZ t mjsA 120 mjs, aI t lijA 120 u.2.2.2.2.2, aI t qujA 30 quj, aZ t hP 500 aP]
abbrev po_X1_start (Q : (Int) → (Int) → (Int) → (Int) → (Int) → (Nat → Int) → Prop) (u : (Int) × (Int) × (Int) × (Int) × (Int) × (Nat → Int)) : Prop := Q u.1 u.2.1 u.2.2.1 u.2.2.2.1 u.2.2.2.2.1 u.2.2.2.2.2
abbrev rm_X1_start : Room := { frames := 1, cells := 0, slots := 0, locals := 26 }
def wp_X1_start_19 (nlj : Int) (ncj : Int) (nwj : Int) (ruj : Int) (njs : Int) (aP : Nat → Int) (x2 : Int) (Q : (Int) → (Int) → (Int) → (Int) → (Int) → (Nat → Int) → Prop) (K_19 : (Nat → Int) → Int → Int → Prop) (lij : Nat → Int) (x3 : Int) (x4 : Int) : Prop := inR x4 ∧ (x4 ≥ 500 → Q nlj ncj nwj ruj njs lij) ∧ (¬ (x4 ≥ 500) → (0 ≤ x4 ∧ x4 < 500) ∧ inR (aP x4.toNat) ∧ (aP x4.toNat = 0 → K_19 lij x3 (x4 + 1)) ∧ (¬ (aP x4.toNat = 0) → inR x3 ∧ inR x2 ∧ (x3 ≥ x2 → K_19 lij x3 (x4 + 1)) ∧ (¬ (x3 ≥ x2) → wp_X1_placeInList x3 x2 (fun r_2 => (0 ≤ r_2 ∧ r_2 < 120) ∧ K_19 (uI lij (r_2.toNat) x4) (x3 + 1) (x4 + 1)))))
def wp_X1_start (nlj : Int) (ncj : Int) (nwj : Int) (ruj : Int) (njs : Int) (lij : Nat → Int) (aP : Nat → Int) (x2 : Int) (Q : (Int) → (Int) → (Int) → (Int) → (Int) → (Nat → Int) → Prop) : Prop := wp_X1_stop nlj ncj nwj ruj njs (fun nlj_1 ncj_1 nwj_1 ruj_1 njs_1 => (∃ n, lq3 (wp_X1_start_19 x2 ncj_1 nwj_1 1 njs_1 aP x2 Q) n lij 0 0))
theorem m_X1_start_39 : Cond.fieldLink RX1 39 "BackgroundRebuild$Rebuild" "running" "Z" ∈ wsX1_start := by decide +kernel
theorem m_X1_start_29 : Cond.fieldLink RX1 29 "BackgroundRebuild$Rebuild" "listed" "I" ∈ wsX1_start := by decide +kernel
theorem m_X1_start_18 : Cond.fieldLink RX1 18 "BackgroundRebuild$Rebuild" "list" "[I" ∈ wsX1_start := by decide +kernel
theorem i_X1_start_1 : ∀ w ∈ u_ws RX1 TX1 7, w ∈ wsX1_start := by decide +kernel
theorem ok_X1_start : yX1_start.cls = RX1 ∧ yX1_start.cls ≠ "java/lang/invoke/MethodHandle" ∧ yX1_start.cls ≠ "java/lang/invoke/VarHandle" ∧ (parseMethodDescriptor yX1_start.desc).map (fun d => d.parameters.length) = some 2 := by decide +kernel
set_option maxHeartbeats 4000000 in
set_option maxRecDepth 100000 in
theorem met_X1_start (l : Launch) (D : va_G) (t : Nat → ClassId) (hj : Nat) (hjs : Nat) (lijA : Nat) (qujA : Nat) (kjsA : Nat) (djsA : Nat) (mjsA : Nat) (hP : Nat) (nlj : Int) (ncj : Int) (nwj : Int) (ruj : Int) (njs : Int) (kjs : Nat → Int) (djs : Nat → Int) (mjs : Nat → Int) (lij : Nat → Int) (quj : Nat → Int) (aP : Nat → Int) (x2 : Int) (Q : (Int) → (Int) → (Int) → (Int) → (Int) → (Nat → Int) → Prop) (hv : wp_X1_start nlj ncj nwj ruj njs lij aP x2 Q) : MV l D t yX1_start wsX1_start rm_X1_start [.ref hj, .ref hP, .int (iI x2)] [oB hj 1 [.ref hjs, .ref lijA, .int (iI nlj), .int (iI ncj), .ref qujA, .int (iI nwj), .int (iI ruj)], oB hjs 3 [.ref kjsA, .ref djsA, .ref mjsA, .int (iI njs)], aI t kjsA 120 kjs, aI t djsA 120 djs, aZ t mjsA 120 mjs, aI t lijA 120 lij, aI t qujA 30 quj, aZ t hP 500 aP] (W1_X1_start t hj hjs lijA qujA kjsA djsA mjsA hP kjs djs mjs quj aP) (po_X1_start Q) 0 0 := by
  refine M_ofv (cc := cX1_start) (nL := 5) (by decide) rfl (Nat.le_of_ble_eq_true rfl) ?_
  intro p e s m args below meth c A hc hr
  have L_19 : ∀ (nlj : Int) (ncj : Int) (nwj : Int) (ruj : Int) (njs : Int) (aP : Nat → Int) (x2 : Int) (n9 : Nat) (lij : Nat → Int) (x3 : Int) (x4 : Int), lq3 (wp_X1_start_19 nlj ncj nwj ruj njs aP x2 Q) n9 lij x3 x4 → V p l e rm_X1_start s m args below meth c D A 5 0 0 (MQ below (QV D A (W1_X1_start t hj hjs lijA qujA kjsA djsA mjsA hP kjs djs mjs quj aP) (po_X1_start Q)) args s 0 0 A) 19 [(0, .ref hj), (1, .ref hP), (2, .int (iI x2)), (3, .int (iI x3)), (4, .int (iI x4))] [] [oB hj 1 [.ref hjs, .ref lijA, .int (iI nlj), .int (iI ncj), .ref qujA, .int (iI nwj), .int (iI ruj)], oB hjs 3 [.ref kjsA, .ref djsA, .ref mjsA, .int (iI njs)], aI t kjsA 120 kjs, aI t djsA 120 djs, aZ t mjsA 120 mjs, aI t lijA 120 lij, aI t qujA 30 quj, aZ t hP 500 aP] := by
    intro nlj ncj nwj ruj njs aP x2 n9
    induction n9 with
    | zero =>
      intro lij x3 x4 hv
      exact hv.elim
    | succ n9 ih =>
      intro lij x3 x4 hv
      have hv : wp_X1_start_19 nlj ncj nwj ruj njs aP x2 Q (lq3 (wp_X1_start_19 nlj ncj nwj ruj njs aP x2 Q) n9) lij x3 x4 := hv
      generalize lq3 (wp_X1_start_19 nlj ncj nwj ruj njs aP x2 Q) n9 = K_19 at hv ih
      have hK_19 := ih
      unfold wp_X1_start_19 at hv
      refine V_iload hc dX1_start_19 4 rfl ?_
      refine V_aload_n hc dX1_start_21 1 rfl ?_
      refine V_alen hc 7 (ti := 1) (v := 500) rfl rfl (by decide) dX1_start_22 ?_
      refine V_icmp_ge (tgt := 59) hc dX1_start_23 (by decide) ⟨hv.1, by decide, hv.2⟩ (fun hv => ?_) (fun hv => ?_)
      · exact V_vret hc hr (nlj, ncj, nwj, ruj, njs, lij) hv rfl dX1_start_59
      · refine V_aload_n hc dX1_start_26 1 rfl ?_
        refine V_iload hc dX1_start_27 4 rfl ?_
        refine V_zald hc 7 rfl (by decide) hv dX1_start_29 (fun hv => ?_)
        refine V_if_eq (tgt := 53) hc dX1_start_30 (by decide) hv (fun hv => ?_) (fun hv => ?_)
        · refine V_iinc hc dX1_start_53 4 rfl [(4, .int (iI (x4 + 1))), (0, .ref hj), (1, .ref hP), (2, .int (iI x2)), (3, .int (iI x3))] (by decide) rfl ?_
          refine V_goto (tgt := 19) hc dX1_start_56 (by decide) ?_
          refine V_lv [1, 2, 3, 4, 0] [(0, .ref hj), (1, .ref hP), (2, .int (iI x2)), (3, .int (iI x3)), (4, .int (iI (x4 + 1)))] rfl ?_
          exact hK_19 lij x3 (x4 + 1) hv
        · refine V_iload_n hc dX1_start_33 3 rfl ?_
          refine V_iload_n hc dX1_start_34 2 rfl ?_
          refine V_icmp_ge (tgt := 53) hc dX1_start_35 (by decide) hv (fun hv => ?_) (fun hv => ?_)
          · refine V_iinc hc dX1_start_53 4 rfl [(4, .int (iI (x4 + 1))), (0, .ref hj), (1, .ref hP), (2, .int (iI x2)), (3, .int (iI x3))] (by decide) rfl ?_
            refine V_goto (tgt := 19) hc dX1_start_56 (by decide) ?_
            refine V_lv [1, 2, 3, 4, 0] [(0, .ref hj), (1, .ref hP), (2, .int (iI x2)), (3, .int (iI x3)), (4, .int (iI (x4 + 1)))] rfl ?_
            exact hK_19 lij x3 (x4 + 1) hv
          · refine V_aload_n hc dX1_start_38 0 rfl ?_
            refine V_get (C := RX1) (T := TX1) (N := 7) hc i_X1_start_1 0 rfl rfl 1 (by decide) m_X1_start_18 rfl dX1_start_39 ?_
            refine V_iload_n hc dX1_start_42 3 rfl ?_
            refine V_iload_n hc dX1_start_43 2 rfl ?_
            refine V_callSI (As := [.int (iI x3), .int (iI x2)]) hc (wc := []) (wr := [oB hj 1 [.ref hjs, .ref lijA, .int (iI nlj), .int (iI ncj), .ref qujA, .int (iI nwj), .int (iI ruj)], oB hjs 3 [.ref kjsA, .ref djsA, .ref mjsA, .int (iI njs)], aI t kjsA 120 kjs, aI t djsA 120 djs, aZ t mjsA 120 mjs, aI t lijA 120 lij, aI t qujA 30 quj, aZ t hP 500 aP]) (pmI (ws := [oB hj 1 [.ref hjs, .ref lijA, .int (iI nlj), .int (iI ncj), .ref qujA, .int (iI nwj), .int (iI ruj)], oB hjs 3 [.ref kjsA, .ref djsA, .ref mjsA, .int (iI njs)], aI t kjsA 120 kjs, aI t djsA 120 djs, aZ t mjsA 120 mjs, aI t lijA 120 lij, aI t qujA 30 quj, aZ t hP 500 aP]) (ws1 := [] ++ [oB hj 1 [.ref hjs, .ref lijA, .int (iI nlj), .int (iI ncj), .ref qujA, .int (iI nwj), .int (iI ruj)], oB hjs 3 [.ref kjsA, .ref djsA, .ref mjsA, .int (iI njs)], aI t kjsA 120 kjs, aI t djsA 120 djs, aZ t mjsA 120 mjs, aI t lijA 120 lij, aI t qujA 30 quj, aZ t hP 500 aP]) [0, 1, 2, 3, 4, 5, 6, 7] 8 rfl (by decide +kernel) rfl) (met_X1_placeInList l D t x3 x2 _ hv) rfl gX1_start_X1_placeInList rfl ⟨rfl, rfl⟩ ok_X1_placeInList (by decide) (Nat.le_of_ble_eq_true rfl) dX1_start_44 (by decide) (fun r_2 _ hv => ?_)
            try dsimp only at hv
            refine V_perm (ws1 := [oB hj 1 [.ref hjs, .ref lijA, .int (iI nlj), .int (iI ncj), .ref qujA, .int (iI nwj), .int (iI ruj)], oB hjs 3 [.ref kjsA, .ref djsA, .ref mjsA, .int (iI njs)], aI t kjsA 120 kjs, aI t djsA 120 djs, aZ t mjsA 120 mjs, aI t lijA 120 lij, aI t qujA 30 quj, aZ t hP 500 aP]) (pmI (ws := [] ++ [oB hj 1 [.ref hjs, .ref lijA, .int (iI nlj), .int (iI ncj), .ref qujA, .int (iI nwj), .int (iI ruj)], oB hjs 3 [.ref kjsA, .ref djsA, .ref mjsA, .int (iI njs)], aI t kjsA 120 kjs, aI t djsA 120 djs, aZ t mjsA 120 mjs, aI t lijA 120 lij, aI t qujA 30 quj, aZ t hP 500 aP]) (ws1 := [oB hj 1 [.ref hjs, .ref lijA, .int (iI nlj), .int (iI ncj), .ref qujA, .int (iI nwj), .int (iI ruj)], oB hjs 3 [.ref kjsA, .ref djsA, .ref mjsA, .int (iI njs)], aI t kjsA 120 kjs, aI t djsA 120 djs, aZ t mjsA 120 mjs, aI t lijA 120 lij, aI t qujA 30 quj, aZ t hP 500 aP]) [0, 1, 2, 3, 4, 5, 6, 7] 8 rfl (by decide +kernel) rfl) ?_
            refine V_iload hc dX1_start_47 4 rfl ?_
            refine V_iast hc 5 rfl (by decide) hv dX1_start_49 [oB hj 1 [.ref hjs, .ref lijA, .int (iI nlj), .int (iI ncj), .ref qujA, .int (iI nwj), .int (iI ruj)], oB hjs 3 [.ref kjsA, .ref djsA, .ref mjsA, .int (iI njs)], aI t kjsA 120 kjs, aI t djsA 120 djs, aZ t mjsA 120 mjs, aI t lijA 120 (uI lij (r_2.toNat) x4), aI t qujA 30 quj, aZ t hP 500 aP] rfl (fun hv => ?_)
            refine V_iinc hc dX1_start_50 3 rfl [(3, .int (iI (x3 + 1))), (0, .ref hj), (1, .ref hP), (2, .int (iI x2)), (4, .int (iI x4))] (by decide) rfl ?_
            refine V_iinc hc dX1_start_53 4 rfl [(4, .int (iI (x4 + 1))), (3, .int (iI (x3 + 1))), (0, .ref hj), (1, .ref hP), (2, .int (iI x2))] (by decide) rfl ?_
            refine V_goto (tgt := 19) hc dX1_start_56 (by decide) ?_
            refine V_lv [2, 3, 4, 1, 0] [(0, .ref hj), (1, .ref hP), (2, .int (iI x2)), (3, .int (iI (x3 + 1))), (4, .int (iI (x4 + 1)))] rfl ?_
            exact hK_19 (uI lij (r_2.toNat) x4) (x3 + 1) (x4 + 1) hv
  refine V_lv [0, 1, 2] [(0, .ref hj), (1, .ref hP), (2, .int (iI x2))] rfl ?_
  unfold wp_X1_start at hv
  refine V_aload_n hc dX1_start_0 0 rfl ?_
  refine V_callVV (As := []) hc (wc := [oB hj 1 [.ref hjs, .ref lijA, .int (iI nlj), .int (iI ncj), .ref qujA, .int (iI nwj), .int (iI ruj)], oB hjs 3 [.ref kjsA, .ref djsA, .ref mjsA, .int (iI njs)], aI t kjsA 120 kjs, aI t djsA 120 djs, aZ t mjsA 120 mjs, aI t lijA 120 lij, aI t qujA 30 quj]) (wr := [aZ t hP 500 aP]) (pmI (ws := [oB hj 1 [.ref hjs, .ref lijA, .int (iI nlj), .int (iI ncj), .ref qujA, .int (iI nwj), .int (iI ruj)], oB hjs 3 [.ref kjsA, .ref djsA, .ref mjsA, .int (iI njs)], aI t kjsA 120 kjs, aI t djsA 120 djs, aZ t mjsA 120 mjs, aI t lijA 120 lij, aI t qujA 30 quj, aZ t hP 500 aP]) (ws1 := [oB hj 1 [.ref hjs, .ref lijA, .int (iI nlj), .int (iI ncj), .ref qujA, .int (iI nwj), .int (iI ruj)], oB hjs 3 [.ref kjsA, .ref djsA, .ref mjsA, .int (iI njs)], aI t kjsA 120 kjs, aI t djsA 120 djs, aZ t mjsA 120 mjs, aI t lijA 120 lij, aI t qujA 30 quj] ++ [aZ t hP 500 aP]) [0, 1, 2, 3, 4, 5, 6, 7] 8 rfl (by decide +kernel) rfl) rfl rfl (met_X1_stop l D t hj hjs lijA qujA kjsA djsA mjsA nlj ncj nwj ruj njs kjs djs mjs lij quj _ hv) rfl gX1_start_X1_stop rfl ⟨rfl, rfl⟩ ok_X1_stop (by decide) (Nat.le_of_ble_eq_true rfl) dX1_start_1 (by decide) (fun u9 hv => ?_)
  obtain ⟨nlj_1, ncj_1, nwj_1, ruj_1, njs_1⟩ := u9
  try dsimp only at hv
  refine V_perm (ws1 := [oB hj 1 [.ref hjs, .ref lijA, .int (iI nlj_1), .int (iI ncj_1), .ref qujA, .int (iI nwj_1), .int (iI ruj_1)], oB hjs 3 [.ref kjsA, .ref djsA, .ref mjsA, .int (iI njs_1)], aI t kjsA 120 kjs, aI t djsA 120 djs, aZ t mjsA 120 mjs, aI t lijA 120 lij, aI t qujA 30 quj, aZ t hP 500 aP]) (pmI (ws := [oB hj 1 [.ref hjs, .ref lijA, .int (iI nlj_1), .int (iI ncj_1), .ref qujA, .int (iI nwj_1), .int (iI ruj_1)], oB hjs 3 [.ref kjsA, .ref djsA, .ref mjsA, .int (iI njs_1)], aI t kjsA 120 kjs, aI t djsA 120 djs, aZ t mjsA 120 mjs, aI t lijA 120 lij, aI t qujA 30 quj] ++ [aZ t hP 500 aP]) (ws1 := [oB hj 1 [.ref hjs, .ref lijA, .int (iI nlj_1), .int (iI ncj_1), .ref qujA, .int (iI nwj_1), .int (iI ruj_1)], oB hjs 3 [.ref kjsA, .ref djsA, .ref mjsA, .int (iI njs_1)], aI t kjsA 120 kjs, aI t djsA 120 djs, aZ t mjsA 120 mjs, aI t lijA 120 lij, aI t qujA 30 quj, aZ t hP 500 aP]) [0, 1, 2, 3, 4, 5, 6, 7] 8 rfl (by decide +kernel) rfl) ?_
  refine V_aload_n hc dX1_start_4 0 rfl ?_
  refine V_iconst hc dX1_start_5 ?_
  refine V_putz (C := RX1) (T := TX1) (N := 7) hc i_X1_start_1 0 rfl rfl 6 (by decide) m_X1_start_39 tyX1 tyX1_ok nmX1 (X := True) ⟨by decide, trivial⟩ rfl (by decide +kernel) (Nat.le_of_ble_eq_true rfl) dX1_start_6 [oB hj 1 [.ref hjs, .ref lijA, .int (iI nlj_1), .int (iI ncj_1), .ref qujA, .int (iI nwj_1), .int (iI 1)], oB hjs 3 [.ref kjsA, .ref djsA, .ref mjsA, .int (iI njs_1)], aI t kjsA 120 kjs, aI t djsA 120 djs, aZ t mjsA 120 mjs, aI t lijA 120 lij, aI t qujA 30 quj, aZ t hP 500 aP] rfl (fun _ => ?_)
  refine V_aload_n hc dX1_start_9 0 rfl ?_
  refine V_iload_n hc dX1_start_10 2 rfl ?_
  refine V_puti (C := RX1) (T := TX1) (N := 7) hc i_X1_start_1 0 rfl rfl 2 (by decide) m_X1_start_29 tyX1 tyX1_ok nmX1 rfl (by decide +kernel) (Nat.le_of_ble_eq_true rfl) dX1_start_11 [oB hj 1 [.ref hjs, .ref lijA, .int (iI x2), .int (iI ncj_1), .ref qujA, .int (iI nwj_1), .int (iI 1)], oB hjs 3 [.ref kjsA, .ref djsA, .ref mjsA, .int (iI njs_1)], aI t kjsA 120 kjs, aI t djsA 120 djs, aZ t mjsA 120 mjs, aI t lijA 120 lij, aI t qujA 30 quj, aZ t hP 500 aP] rfl ?_
  refine V_iconst hc dX1_start_14 ?_
  refine V_istore_n hc dX1_start_15 [(3, .int (iI 0)), (0, .ref hj), (1, .ref hP), (2, .int (iI x2))] (by decide) rfl ?_
  refine V_iconst hc dX1_start_16 ?_
  refine V_istore hc dX1_start_17 [(4, .int (iI 0)), (3, .int (iI 0)), (0, .ref hj), (1, .ref hP), (2, .int (iI x2))] (by decide) rfl ?_
  refine V_lv [2, 3, 4, 1, 0] [(0, .ref hj), (1, .ref hP), (2, .int (iI x2)), (3, .int (iI 0)), (4, .int (iI 0))] rfl ?_
  obtain ⟨n9, hv⟩ := hv
  exact L_19 x2 ncj_1 nwj_1 1 njs_1 aP x2 n9 lij 0 0 hv
abbrev W1_X1_enqueue (t : Nat → ClassId) (hj : Nat) (hjs : Nat) (lijA : Nat) (qujA : Nat) (kjsA : Nat) (djsA : Nat) (mjsA : Nat) (nlj : Int) (ncj : Int) (ruj : Int) (njs : Int) (kjs : Nat → Int) (djs : Nat → Int) (mjs : Nat → Int) (lij : Nat → Int) (u : (Int) × (Nat → Int)) : va_W := [oB hj 1 [.ref hjs, .ref lijA, .int (iI nlj), .int (iI ncj), .ref qujA, .int (iI u.1), .int (iI ruj)], oB hjs 3 [.ref kjsA, .ref djsA, .ref mjsA, .int (iI njs)], aI t kjsA 120 kjs, aI t djsA 120 djs, aZ t mjsA 120 mjs, aI t lijA 120 lij, aI t qujA 30 u.2]
abbrev po_X1_enqueue (Q : (Int) → (Nat → Int) → Prop) (u : (Int) × (Nat → Int)) : Prop := Q u.1 u.2
abbrev rm_X1_enqueue : Room := { frames := 0, cells := 0, slots := 0, locals := 0 }
def wp_X1_enqueue (nwj : Int) (quj : Nat → Int) (x1 : Int) (Q : (Int) → (Nat → Int) → Prop) : Prop := inR nwj ∧ (nwj ≥ 30 → Q nwj quj) ∧ (¬ (nwj ≥ 30) → (0 ≤ nwj ∧ nwj < 30) ∧ Q (nwj + 1) (uI quj (nwj.toNat) x1))
theorem m_X1_enqueue_36 : Cond.fieldLink RX1 36 "BackgroundRebuild$Rebuild" "waiting" "I" ∈ wsX1_enqueue := by decide +kernel
theorem m_X1_enqueue_22 : Cond.fieldLink RX1 22 "BackgroundRebuild$Rebuild" "queue" "[I" ∈ wsX1_enqueue := by decide +kernel
theorem i_X1_enqueue_1 : ∀ w ∈ u_ws RX1 TX1 7, w ∈ wsX1_enqueue := by decide +kernel
theorem ok_X1_enqueue : yX1_enqueue.cls = RX1 ∧ yX1_enqueue.cls ≠ "java/lang/invoke/MethodHandle" ∧ yX1_enqueue.cls ≠ "java/lang/invoke/VarHandle" ∧ (parseMethodDescriptor yX1_enqueue.desc).map (fun d => d.parameters.length) = some 1 := by decide +kernel
set_option maxHeartbeats 4000000 in
set_option maxRecDepth 100000 in
theorem met_X1_enqueue (l : Launch) (D : va_G) (t : Nat → ClassId) (hj : Nat) (hjs : Nat) (lijA : Nat) (qujA : Nat) (kjsA : Nat) (djsA : Nat) (mjsA : Nat) (nlj : Int) (ncj : Int) (nwj : Int) (ruj : Int) (njs : Int) (kjs : Nat → Int) (djs : Nat → Int) (mjs : Nat → Int) (lij : Nat → Int) (quj : Nat → Int) (x1 : Int) (Q : (Int) → (Nat → Int) → Prop) (hv : wp_X1_enqueue nwj quj x1 Q) : MV l D t yX1_enqueue wsX1_enqueue rm_X1_enqueue [.ref hj, .int (iI x1)] [oB hj 1 [.ref hjs, .ref lijA, .int (iI nlj), .int (iI ncj), .ref qujA, .int (iI nwj), .int (iI ruj)], oB hjs 3 [.ref kjsA, .ref djsA, .ref mjsA, .int (iI njs)], aI t kjsA 120 kjs, aI t djsA 120 djs, aZ t mjsA 120 mjs, aI t lijA 120 lij, aI t qujA 30 quj] (W1_X1_enqueue t hj hjs lijA qujA kjsA djsA mjsA nlj ncj ruj njs kjs djs mjs lij) (po_X1_enqueue Q) 0 0 := by
  refine M_ofv (cc := cX1_enqueue) (nL := 2) (by decide) rfl (Nat.le_of_ble_eq_true rfl) ?_
  intro p e s m args below meth c A hc hr
  refine V_lv [0, 1] [(0, .ref hj), (1, .int (iI x1))] rfl ?_
  unfold wp_X1_enqueue at hv
  refine V_aload_n hc dX1_enqueue_0 0 rfl ?_
  refine V_get (C := RX1) (T := TX1) (N := 7) hc i_X1_enqueue_1 0 rfl rfl 5 (by decide) m_X1_enqueue_36 rfl dX1_enqueue_1 ?_
  refine V_bipush hc dX1_enqueue_4 (by decide) ?_
  refine V_icmp_ge (tgt := 29) hc dX1_enqueue_6 (by decide) ⟨hv.1, by decide, hv.2⟩ (fun hv => ?_) (fun hv => ?_)
  · exact V_vret hc hr (nwj, quj) hv rfl dX1_enqueue_29
  · refine V_aload_n hc dX1_enqueue_9 0 rfl ?_
    refine V_get (C := RX1) (T := TX1) (N := 7) hc i_X1_enqueue_1 0 rfl rfl 4 (by decide) m_X1_enqueue_22 rfl dX1_enqueue_10 ?_
    refine V_aload_n hc dX1_enqueue_13 0 rfl ?_
    refine V_get (C := RX1) (T := TX1) (N := 7) hc i_X1_enqueue_1 0 rfl rfl 5 (by decide) m_X1_enqueue_36 rfl dX1_enqueue_14 ?_
    refine V_iload_n hc dX1_enqueue_17 1 rfl ?_
    refine V_iast hc 6 rfl (by decide) hv dX1_enqueue_18 [oB hj 1 [.ref hjs, .ref lijA, .int (iI nlj), .int (iI ncj), .ref qujA, .int (iI nwj), .int (iI ruj)], oB hjs 3 [.ref kjsA, .ref djsA, .ref mjsA, .int (iI njs)], aI t kjsA 120 kjs, aI t djsA 120 djs, aZ t mjsA 120 mjs, aI t lijA 120 lij, aI t qujA 30 (uI quj (nwj.toNat) x1)] rfl (fun hv => ?_)
    refine V_aload_n hc dX1_enqueue_19 0 rfl ?_
    refine V_dup hc dX1_enqueue_20 rfl ?_
    refine V_get (C := RX1) (T := TX1) (N := 7) hc i_X1_enqueue_1 0 rfl rfl 5 (by decide) m_X1_enqueue_36 rfl dX1_enqueue_21 ?_
    refine V_iconst hc dX1_enqueue_24 ?_
    refine V_iadd hc dX1_enqueue_25 ?_
    refine V_puti (C := RX1) (T := TX1) (N := 7) hc i_X1_enqueue_1 0 rfl rfl 5 (by decide) m_X1_enqueue_36 tyX1 tyX1_ok nmX1 rfl (by decide +kernel) (Nat.le_of_ble_eq_true rfl) dX1_enqueue_26 [oB hj 1 [.ref hjs, .ref lijA, .int (iI nlj), .int (iI ncj), .ref qujA, .int (iI (nwj + 1)), .int (iI ruj)], oB hjs 3 [.ref kjsA, .ref djsA, .ref mjsA, .int (iI njs)], aI t kjsA 120 kjs, aI t djsA 120 djs, aZ t mjsA 120 mjs, aI t lijA 120 lij, aI t qujA 30 (uI quj (nwj.toNat) x1)] rfl ?_
    exact V_vret hc hr (nwj + 1, uI quj (nwj.toNat) x1) hv rfl dX1_enqueue_29
abbrev W1_X1_dequeue (t : Nat → ClassId) (hj : Nat) (hjs : Nat) (lijA : Nat) (qujA : Nat) (kjsA : Nat) (djsA : Nat) (mjsA : Nat) (nlj : Int) (ncj : Int) (ruj : Int) (njs : Int) (kjs : Nat → Int) (djs : Nat → Int) (mjs : Nat → Int) (lij : Nat → Int) (u : (Int) × (Nat → Int)) : va_W := [oB hj 1 [.ref hjs, .ref lijA, .int (iI nlj), .int (iI ncj), .ref qujA, .int (iI u.1), .int (iI ruj)], oB hjs 3 [.ref kjsA, .ref djsA, .ref mjsA, .int (iI njs)], aI t kjsA 120 kjs, aI t djsA 120 djs, aZ t mjsA 120 mjs, aI t lijA 120 lij, aI t qujA 30 u.2]
abbrev po_X1_dequeue (Q : Int → (Int) → (Nat → Int) → Prop) (r : Int) (u : (Int) × (Nat → Int)) : Prop := Q r u.1 u.2
abbrev rm_X1_dequeue : Room := { frames := 1, cells := 0, slots := 0, locals := 60 }
def wp_X1_dequeue (nwj : Int) (quj : Nat → Int) (Q : Int → (Int) → (Nat → Int) → Prop) : Prop := (0 ≤ (1 : Int) ∧ 0 ≤ (0 : Int) ∧ 0 ≤ nwj - 1) ∧ ((1 : Int) + (nwj - 1) ≤ 30 ∧ (0 : Int) + (nwj - 1) ≤ 30) ∧ Q (quj 0) (nwj - 1) (cpI quj quj 1 0 ((nwj - 1).toNat))
theorem m_X1_dequeue_22 : Cond.fieldLink RX1 22 "BackgroundRebuild$Rebuild" "queue" "[I" ∈ wsX1_dequeue := by decide +kernel
theorem m_X1_dequeue_36 : Cond.fieldLink RX1 36 "BackgroundRebuild$Rebuild" "waiting" "I" ∈ wsX1_dequeue := by decide +kernel
theorem m_X1_dequeue_ac43 : Cond.methodLink RX1 43 arraycopyName ∈ wsX1_dequeue := by decide +kernel
theorem m_X1_dequeue_acn : Cond.native arraycopyName ∈ wsX1_dequeue := by decide +kernel
theorem m_X1_dequeue_acs : Cond.static arraycopyName ∈ wsX1_dequeue := by decide +kernel
theorem m_X1_dequeue_aci : Cond.initialized "java/lang/System" ∈ wsX1_dequeue := by decide +kernel
theorem i_X1_dequeue_1 : ∀ w ∈ u_ws RX1 TX1 7, w ∈ wsX1_dequeue := by decide +kernel
theorem ok_X1_dequeue : yX1_dequeue.cls = RX1 ∧ yX1_dequeue.cls ≠ "java/lang/invoke/MethodHandle" ∧ yX1_dequeue.cls ≠ "java/lang/invoke/VarHandle" ∧ (parseMethodDescriptor yX1_dequeue.desc).map (fun d => d.parameters.length) = some 0 := by decide +kernel
set_option maxHeartbeats 4000000 in
set_option maxRecDepth 100000 in
theorem met_X1_dequeue (l : Launch) (D : va_G) (t : Nat → ClassId) (hj : Nat) (hjs : Nat) (lijA : Nat) (qujA : Nat) (kjsA : Nat) (djsA : Nat) (mjsA : Nat) (nlj : Int) (ncj : Int) (nwj : Int) (ruj : Int) (njs : Int) (kjs : Nat → Int) (djs : Nat → Int) (mjs : Nat → Int) (lij : Nat → Int) (quj : Nat → Int) (Q : Int → (Int) → (Nat → Int) → Prop) (hv : wp_X1_dequeue nwj quj Q) : MI l D t yX1_dequeue wsX1_dequeue rm_X1_dequeue [.ref hj] [oB hj 1 [.ref hjs, .ref lijA, .int (iI nlj), .int (iI ncj), .ref qujA, .int (iI nwj), .int (iI ruj)], oB hjs 3 [.ref kjsA, .ref djsA, .ref mjsA, .int (iI njs)], aI t kjsA 120 kjs, aI t djsA 120 djs, aZ t mjsA 120 mjs, aI t lijA 120 lij, aI t qujA 30 quj] (W1_X1_dequeue t hj hjs lijA qujA kjsA djsA mjsA nlj ncj ruj njs kjs djs mjs lij) (po_X1_dequeue Q) 0 0 := by
  refine M_ofi (cc := cX1_dequeue) (nL := 2) (by decide) rfl (Nat.le_of_ble_eq_true rfl) ?_
  intro p e s m args below meth c A hc hr
  refine V_lv [0] [(0, .ref hj)] rfl ?_
  unfold wp_X1_dequeue at hv
  refine V_aload_n hc dX1_dequeue_0 0 rfl ?_
  refine V_get (C := RX1) (T := TX1) (N := 7) hc i_X1_dequeue_1 0 rfl rfl 4 (by decide) m_X1_dequeue_22 rfl dX1_dequeue_1 ?_
  refine V_iconst hc dX1_dequeue_4 ?_
  refine V_iald hc 6 rfl (by decide) ⟨by decide, hv⟩ dX1_dequeue_5 (fun hv => ?_)
  refine V_istore_n hc dX1_dequeue_6 [(1, .int (iI (quj 0))), (0, .ref hj)] (by decide) rfl ?_
  refine V_aload_n hc dX1_dequeue_7 1 rfl ?_
  refine V_dup hc dX1_dequeue_8 rfl ?_
  refine V_get (C := RX1) (T := TX1) (N := 7) hc i_X1_dequeue_1 0 rfl rfl 5 (by decide) m_X1_dequeue_36 rfl dX1_dequeue_9 ?_
  refine V_iconst hc dX1_dequeue_12 ?_
  refine V_isub hc dX1_dequeue_13 ?_
  refine V_puti (C := RX1) (T := TX1) (N := 7) hc i_X1_dequeue_1 0 rfl rfl 5 (by decide) m_X1_dequeue_36 tyX1 tyX1_ok nmX1 rfl (by decide +kernel) (Nat.le_of_ble_eq_true rfl) dX1_dequeue_14 [oB hj 1 [.ref hjs, .ref lijA, .int (iI nlj), .int (iI ncj), .ref qujA, .int (iI (nwj - 1)), .int (iI ruj)], oB hjs 3 [.ref kjsA, .ref djsA, .ref mjsA, .int (iI njs)], aI t kjsA 120 kjs, aI t djsA 120 djs, aZ t mjsA 120 mjs, aI t lijA 120 lij, aI t qujA 30 quj] rfl ?_
  refine V_aload_n hc dX1_dequeue_17 1 rfl ?_
  refine V_get (C := RX1) (T := TX1) (N := 7) hc i_X1_dequeue_1 0 rfl rfl 4 (by decide) m_X1_dequeue_22 rfl dX1_dequeue_18 ?_
  refine V_iconst hc dX1_dequeue_21 ?_
  refine V_aload_n hc dX1_dequeue_22 1 rfl ?_
  refine V_get (C := RX1) (T := TX1) (N := 7) hc i_X1_dequeue_1 0 rfl rfl 4 (by decide) m_X1_dequeue_22 rfl dX1_dequeue_23 ?_
  refine V_iconst hc dX1_dequeue_26 ?_
  refine V_aload_n hc dX1_dequeue_27 1 rfl ?_
  refine V_get (C := RX1) (T := TX1) (N := 7) hc i_X1_dequeue_1 0 rfl rfl 5 (by decide) m_X1_dequeue_36 rfl dX1_dequeue_28 ?_
  refine V_copyi hc m_X1_dequeue_ac43 m_X1_dequeue_acn m_X1_dequeue_acs m_X1_dequeue_aci 6 6 rfl rfl (by decide) (by decide) hv (by decide) (Nat.le_of_ble_eq_true rfl) dX1_dequeue_31 [oB hj 1 [.ref hjs, .ref lijA, .int (iI nlj), .int (iI ncj), .ref qujA, .int (iI (nwj - 1)), .int (iI ruj)], oB hjs 3 [.ref kjsA, .ref djsA, .ref mjsA, .int (iI njs)], aI t kjsA 120 kjs, aI t djsA 120 djs, aZ t mjsA 120 mjs, aI t lijA 120 lij, aI t qujA 30 (cpI quj quj 1 0 ((nwj - 1).toNat))] rfl (fun hv => ?_)
  refine V_iload_n hc dX1_dequeue_34 0 rfl ?_
  exact V_iret hc hr (nwj - 1, cpI quj quj 1 0 ((nwj - 1).toNat)) hv rfl dX1_dequeue_35
abbrev W1_X1_takeStep (t : Nat → ClassId) (hj : Nat) (hjs : Nat) (lijA : Nat) (qujA : Nat) (kjsA : Nat) (djsA : Nat) (mjsA : Nat) (nlj : Int) (ruj : Int) (lij : Nat → Int) (u : (Int) × (Int) × (Int) × (Nat → Int) × (Nat → Int) × (Nat → Int) × (Nat → Int)) : va_W := [oB hj 1 [.ref hjs, .ref lijA, .int (iI nlj), .int (iI u.1), .ref qujA, .int (iI u.2.1), .int (iI ruj)], oB hjs 3 [.ref kjsA, .ref djsA, .ref mjsA, .int (iI u.2.2.1)], aI t kjsA 120 u.2.2.2.1, aI t djsA 120 u.2.2.2.2.1, aZ t mjsA 120 u.2.2.2.2.2.1, aI t lijA 120 lij, aI t qujA 30 u.2.2.2.2.2.2]
abbrev po_X1_takeStep (Q : Int → (Int) → (Int) → (Int) → (Nat → Int) → (Nat → Int) → (Nat → Int) → (Nat → Int) → Prop) (r : Int) (u : (Int) × (Int) × (Int) × (Nat → Int) × (Nat → Int) × (Nat → Int) × (Nat → Int)) : Prop := Q r u.1 u.2.1 u.2.2.1 u.2.2.2.1 u.2.2.2.2.1 u.2.2.2.2.2.1 u.2.2.2.2.2.2
abbrev rm_X1_takeStep : Room := { frames := 3, cells := 0, slots := 0, locals := 110 }
def wp_X1_takeStep (nlj : Int) (ncj : Int) (nwj : Int) (njs : Int) (kjs : Nat → Int) (djs : Nat → Int) (mjs : Nat → Int) (lij : Nat → Int) (quj : Nat → Int) (Q : Int → (Int) → (Int) → (Int) → (Nat → Int) → (Nat → Int) → (Nat → Int) → (Nat → Int) → Prop) : Prop := inR ncj ∧ inR nlj ∧ (ncj ≥ nlj → inR nwj ∧ (nwj ≤ 0 → Q 0 ncj nwj njs kjs djs mjs quj) ∧ (¬ (nwj ≤ 0) → wp_X1_dequeue nwj quj (fun r_1 nwj_1 quj_1 => wp_X3_visitsFor njs kjs djs r_1 (fun r_2 => wp_X3_changeBy njs kjs djs mjs r_1 (fun r_3 njs_3 kjs_3 djs_3 mjs_3 => Q r_2 ncj nwj_1 njs_3 kjs_3 djs_3 mjs_3 quj_1))))) ∧ (¬ (ncj ≥ nlj) → (0 ≤ ncj ∧ ncj < 120) ∧ wp_X3_changeBy njs kjs djs mjs (lij ncj.toNat) (fun r_4 njs_4 kjs_4 djs_4 mjs_4 => Q 1 (ncj + 1) nwj njs_4 kjs_4 djs_4 mjs_4 quj))
theorem m_X1_takeStep_33 : Cond.fieldLink RX1 33 "BackgroundRebuild$Rebuild" "copied" "I" ∈ wsX1_takeStep := by decide +kernel
theorem m_X1_takeStep_29 : Cond.fieldLink RX1 29 "BackgroundRebuild$Rebuild" "listed" "I" ∈ wsX1_takeStep := by decide +kernel
theorem m_X1_takeStep_36 : Cond.fieldLink RX1 36 "BackgroundRebuild$Rebuild" "waiting" "I" ∈ wsX1_takeStep := by decide +kernel
theorem m_X1_takeStep_12 : Cond.fieldLink RX1 12 "BackgroundRebuild$Rebuild" "secondTree" "LBackgroundRebuild$Tree;" ∈ wsX1_takeStep := by decide +kernel
theorem m_X1_takeStep_18 : Cond.fieldLink RX1 18 "BackgroundRebuild$Rebuild" "list" "[I" ∈ wsX1_takeStep := by decide +kernel
theorem i_X1_takeStep_1 : ∀ w ∈ u_ws RX1 TX1 7, w ∈ wsX1_takeStep := by decide +kernel
theorem ok_X1_takeStep : yX1_takeStep.cls = RX1 ∧ yX1_takeStep.cls ≠ "java/lang/invoke/MethodHandle" ∧ yX1_takeStep.cls ≠ "java/lang/invoke/VarHandle" ∧ (parseMethodDescriptor yX1_takeStep.desc).map (fun d => d.parameters.length) = some 0 := by decide +kernel
set_option maxHeartbeats 4000000 in
set_option maxRecDepth 100000 in
theorem met_X1_takeStep (l : Launch) (D : va_G) (t : Nat → ClassId) (hj : Nat) (hjs : Nat) (lijA : Nat) (qujA : Nat) (kjsA : Nat) (djsA : Nat) (mjsA : Nat) (nlj : Int) (ncj : Int) (nwj : Int) (ruj : Int) (njs : Int) (kjs : Nat → Int) (djs : Nat → Int) (mjs : Nat → Int) (lij : Nat → Int) (quj : Nat → Int) (Q : Int → (Int) → (Int) → (Int) → (Nat → Int) → (Nat → Int) → (Nat → Int) → (Nat → Int) → Prop) (hv : wp_X1_takeStep nlj ncj nwj njs kjs djs mjs lij quj Q) : MI l D t yX1_takeStep wsX1_takeStep rm_X1_takeStep [.ref hj] [oB hj 1 [.ref hjs, .ref lijA, .int (iI nlj), .int (iI ncj), .ref qujA, .int (iI nwj), .int (iI ruj)], oB hjs 3 [.ref kjsA, .ref djsA, .ref mjsA, .int (iI njs)], aI t kjsA 120 kjs, aI t djsA 120 djs, aZ t mjsA 120 mjs, aI t lijA 120 lij, aI t qujA 30 quj] (W1_X1_takeStep t hj hjs lijA qujA kjsA djsA mjsA nlj ruj lij) (po_X1_takeStep Q) 0 0 := by
  refine M_ofi (cc := cX1_takeStep) (nL := 3) (by decide) rfl (Nat.le_of_ble_eq_true rfl) ?_
  intro p e s m args below meth c A hc hr
  refine V_lv [0] [(0, .ref hj)] rfl ?_
  unfold wp_X1_takeStep at hv
  refine V_aload_n hc dX1_takeStep_0 0 rfl ?_
  refine V_get (C := RX1) (T := TX1) (N := 7) hc i_X1_takeStep_1 0 rfl rfl 3 (by decide) m_X1_takeStep_33 rfl dX1_takeStep_1 ?_
  refine V_aload_n hc dX1_takeStep_4 0 rfl ?_
  refine V_get (C := RX1) (T := TX1) (N := 7) hc i_X1_takeStep_1 0 rfl rfl 2 (by decide) m_X1_takeStep_29 rfl dX1_takeStep_5 ?_
  refine V_icmp_ge (tgt := 40) hc dX1_takeStep_8 (by decide) hv (fun hv => ?_) (fun hv => ?_)
  · refine V_aload_n hc dX1_takeStep_40 0 rfl ?_
    refine V_get (C := RX1) (T := TX1) (N := 7) hc i_X1_takeStep_1 0 rfl rfl 5 (by decide) m_X1_takeStep_36 rfl dX1_takeStep_41 ?_
    refine V_if_le (tgt := 72) hc dX1_takeStep_44 (by decide) hv (fun hv => ?_) (fun hv => ?_)
    · refine V_iconst hc dX1_takeStep_72 ?_
      exact V_iret hc hr (ncj, nwj, njs, kjs, djs, mjs, quj) hv rfl dX1_takeStep_73
    · refine V_aload_n hc dX1_takeStep_47 0 rfl ?_
      refine V_callVI (As := []) hc (wc := [oB hj 1 [.ref hjs, .ref lijA, .int (iI nlj), .int (iI ncj), .ref qujA, .int (iI nwj), .int (iI ruj)], oB hjs 3 [.ref kjsA, .ref djsA, .ref mjsA, .int (iI njs)], aI t kjsA 120 kjs, aI t djsA 120 djs, aZ t mjsA 120 mjs, aI t lijA 120 lij, aI t qujA 30 quj]) (wr := []) (pmI (ws := [oB hj 1 [.ref hjs, .ref lijA, .int (iI nlj), .int (iI ncj), .ref qujA, .int (iI nwj), .int (iI ruj)], oB hjs 3 [.ref kjsA, .ref djsA, .ref mjsA, .int (iI njs)], aI t kjsA 120 kjs, aI t djsA 120 djs, aZ t mjsA 120 mjs, aI t lijA 120 lij, aI t qujA 30 quj]) (ws1 := [oB hj 1 [.ref hjs, .ref lijA, .int (iI nlj), .int (iI ncj), .ref qujA, .int (iI nwj), .int (iI ruj)], oB hjs 3 [.ref kjsA, .ref djsA, .ref mjsA, .int (iI njs)], aI t kjsA 120 kjs, aI t djsA 120 djs, aZ t mjsA 120 mjs, aI t lijA 120 lij, aI t qujA 30 quj] ++ []) [0, 1, 2, 3, 4, 5, 6] 7 rfl (by decide +kernel) rfl) rfl rfl (met_X1_dequeue l D t hj hjs lijA qujA kjsA djsA mjsA nlj ncj nwj ruj njs kjs djs mjs lij quj _ hv) rfl gX1_takeStep_X1_dequeue rfl ⟨rfl, rfl⟩ ok_X1_dequeue (by decide) (Nat.le_of_ble_eq_true rfl) dX1_takeStep_48 (by decide) (fun r_1 u9 hv => ?_)
      obtain ⟨nwj_1, quj_1⟩ := u9
      try dsimp only at hv
      refine V_perm (ws1 := [oB hj 1 [.ref hjs, .ref lijA, .int (iI nlj), .int (iI ncj), .ref qujA, .int (iI nwj_1), .int (iI ruj)], oB hjs 3 [.ref kjsA, .ref djsA, .ref mjsA, .int (iI njs)], aI t kjsA 120 kjs, aI t djsA 120 djs, aZ t mjsA 120 mjs, aI t lijA 120 lij, aI t qujA 30 quj_1]) (pmI (ws := [oB hj 1 [.ref hjs, .ref lijA, .int (iI nlj), .int (iI ncj), .ref qujA, .int (iI nwj_1), .int (iI ruj)], oB hjs 3 [.ref kjsA, .ref djsA, .ref mjsA, .int (iI njs)], aI t kjsA 120 kjs, aI t djsA 120 djs, aZ t mjsA 120 mjs, aI t lijA 120 lij, aI t qujA 30 quj_1] ++ []) (ws1 := [oB hj 1 [.ref hjs, .ref lijA, .int (iI nlj), .int (iI ncj), .ref qujA, .int (iI nwj_1), .int (iI ruj)], oB hjs 3 [.ref kjsA, .ref djsA, .ref mjsA, .int (iI njs)], aI t kjsA 120 kjs, aI t djsA 120 djs, aZ t mjsA 120 mjs, aI t lijA 120 lij, aI t qujA 30 quj_1]) [0, 1, 2, 3, 4, 5, 6] 7 rfl (by decide +kernel) rfl) ?_
      refine V_istore_n hc dX1_takeStep_51 [(1, .int (iI r_1)), (0, .ref hj)] (by decide) rfl ?_
      refine V_aload_n hc dX1_takeStep_52 1 rfl ?_
      refine V_get (C := RX1) (T := TX1) (N := 7) hc i_X1_takeStep_1 0 rfl rfl 0 (by decide) m_X1_takeStep_12 rfl dX1_takeStep_53 ?_
      refine V_iload_n hc dX1_takeStep_56 0 rfl ?_
      refine V_callVI (As := [.int (iI r_1)]) hc (wc := [oB hjs 3 [.ref kjsA, .ref djsA, .ref mjsA, .int (iI njs)], aI t kjsA 120 kjs, aI t djsA 120 djs, aZ t mjsA 120 mjs]) (wr := [oB hj 1 [.ref hjs, .ref lijA, .int (iI nlj), .int (iI ncj), .ref qujA, .int (iI nwj_1), .int (iI ruj)], aI t lijA 120 lij, aI t qujA 30 quj_1]) (pmI (ws := [oB hj 1 [.ref hjs, .ref lijA, .int (iI nlj), .int (iI ncj), .ref qujA, .int (iI nwj_1), .int (iI ruj)], oB hjs 3 [.ref kjsA, .ref djsA, .ref mjsA, .int (iI njs)], aI t kjsA 120 kjs, aI t djsA 120 djs, aZ t mjsA 120 mjs, aI t lijA 120 lij, aI t qujA 30 quj_1]) (ws1 := [oB hjs 3 [.ref kjsA, .ref djsA, .ref mjsA, .int (iI njs)], aI t kjsA 120 kjs, aI t djsA 120 djs, aZ t mjsA 120 mjs] ++ [oB hj 1 [.ref hjs, .ref lijA, .int (iI nlj), .int (iI ncj), .ref qujA, .int (iI nwj_1), .int (iI ruj)], aI t lijA 120 lij, aI t qujA 30 quj_1]) [1, 2, 3, 4, 0, 5, 6] 7 rfl (by decide +kernel) rfl) rfl rfl (met_X3_visitsFor l D t hjs kjsA djsA mjsA njs kjs djs mjs r_1 _ hv) rfl gX1_takeStep_X3_visitsFor rfl ⟨rfl, rfl⟩ ok_X3_visitsFor (by decide) (Nat.le_of_ble_eq_true rfl) dX1_takeStep_57 (by decide) (fun r_2 _ hv => ?_)
      try dsimp only at hv
      refine V_perm (ws1 := [oB hj 1 [.ref hjs, .ref lijA, .int (iI nlj), .int (iI ncj), .ref qujA, .int (iI nwj_1), .int (iI ruj)], oB hjs 3 [.ref kjsA, .ref djsA, .ref mjsA, .int (iI njs)], aI t kjsA 120 kjs, aI t djsA 120 djs, aZ t mjsA 120 mjs, aI t lijA 120 lij, aI t qujA 30 quj_1]) (pmI (ws := [oB hjs 3 [.ref kjsA, .ref djsA, .ref mjsA, .int (iI njs)], aI t kjsA 120 kjs, aI t djsA 120 djs, aZ t mjsA 120 mjs] ++ [oB hj 1 [.ref hjs, .ref lijA, .int (iI nlj), .int (iI ncj), .ref qujA, .int (iI nwj_1), .int (iI ruj)], aI t lijA 120 lij, aI t qujA 30 quj_1]) (ws1 := [oB hj 1 [.ref hjs, .ref lijA, .int (iI nlj), .int (iI ncj), .ref qujA, .int (iI nwj_1), .int (iI ruj)], oB hjs 3 [.ref kjsA, .ref djsA, .ref mjsA, .int (iI njs)], aI t kjsA 120 kjs, aI t djsA 120 djs, aZ t mjsA 120 mjs, aI t lijA 120 lij, aI t qujA 30 quj_1]) [4, 0, 1, 2, 3, 5, 6] 7 rfl (by decide +kernel) rfl) ?_
      refine V_istore_n hc dX1_takeStep_60 [(2, .int (iI r_2)), (1, .int (iI r_1)), (0, .ref hj)] (by decide) rfl ?_
      refine V_aload_n hc dX1_takeStep_61 2 rfl ?_
      refine V_get (C := RX1) (T := TX1) (N := 7) hc i_X1_takeStep_1 0 rfl rfl 0 (by decide) m_X1_takeStep_12 rfl dX1_takeStep_62 ?_
      refine V_iload_n hc dX1_takeStep_65 1 rfl ?_
      refine V_callVI (As := [.int (iI r_1)]) hc (wc := [oB hjs 3 [.ref kjsA, .ref djsA, .ref mjsA, .int (iI njs)], aI t kjsA 120 kjs, aI t djsA 120 djs, aZ t mjsA 120 mjs]) (wr := [oB hj 1 [.ref hjs, .ref lijA, .int (iI nlj), .int (iI ncj), .ref qujA, .int (iI nwj_1), .int (iI ruj)], aI t lijA 120 lij, aI t qujA 30 quj_1]) (pmI (ws := [oB hj 1 [.ref hjs, .ref lijA, .int (iI nlj), .int (iI ncj), .ref qujA, .int (iI nwj_1), .int (iI ruj)], oB hjs 3 [.ref kjsA, .ref djsA, .ref mjsA, .int (iI njs)], aI t kjsA 120 kjs, aI t djsA 120 djs, aZ t mjsA 120 mjs, aI t lijA 120 lij, aI t qujA 30 quj_1]) (ws1 := [oB hjs 3 [.ref kjsA, .ref djsA, .ref mjsA, .int (iI njs)], aI t kjsA 120 kjs, aI t djsA 120 djs, aZ t mjsA 120 mjs] ++ [oB hj 1 [.ref hjs, .ref lijA, .int (iI nlj), .int (iI ncj), .ref qujA, .int (iI nwj_1), .int (iI ruj)], aI t lijA 120 lij, aI t qujA 30 quj_1]) [1, 2, 3, 4, 0, 5, 6] 7 rfl (by decide +kernel) rfl) rfl rfl (met_X3_changeBy l D t hjs kjsA djsA mjsA njs kjs djs mjs r_1 _ hv) rfl gX1_takeStep_X3_changeBy rfl ⟨rfl, rfl⟩ ok_X3_changeBy (by decide) (Nat.le_of_ble_eq_true rfl) dX1_takeStep_66 (by decide) (fun r_3 u9 hv => ?_)
      obtain ⟨njs_3, kjs_3, djs_3, mjs_3⟩ := u9
      try dsimp only at hv
      refine V_perm (ws1 := [oB hj 1 [.ref hjs, .ref lijA, .int (iI nlj), .int (iI ncj), .ref qujA, .int (iI nwj_1), .int (iI ruj)], oB hjs 3 [.ref kjsA, .ref djsA, .ref mjsA, .int (iI njs_3)], aI t kjsA 120 kjs_3, aI t djsA 120 djs_3, aZ t mjsA 120 mjs_3, aI t lijA 120 lij, aI t qujA 30 quj_1]) (pmI (ws := [oB hjs 3 [.ref kjsA, .ref djsA, .ref mjsA, .int (iI njs_3)], aI t kjsA 120 kjs_3, aI t djsA 120 djs_3, aZ t mjsA 120 mjs_3] ++ [oB hj 1 [.ref hjs, .ref lijA, .int (iI nlj), .int (iI ncj), .ref qujA, .int (iI nwj_1), .int (iI ruj)], aI t lijA 120 lij, aI t qujA 30 quj_1]) (ws1 := [oB hj 1 [.ref hjs, .ref lijA, .int (iI nlj), .int (iI ncj), .ref qujA, .int (iI nwj_1), .int (iI ruj)], oB hjs 3 [.ref kjsA, .ref djsA, .ref mjsA, .int (iI njs_3)], aI t kjsA 120 kjs_3, aI t djsA 120 djs_3, aZ t mjsA 120 mjs_3, aI t lijA 120 lij, aI t qujA 30 quj_1]) [4, 0, 1, 2, 3, 5, 6] 7 rfl (by decide +kernel) rfl) ?_
      refine V_pop hc dX1_takeStep_69 rfl ?_
      refine V_iload_n hc dX1_takeStep_70 0 rfl ?_
      exact V_iret hc hr (ncj, nwj_1, njs_3, kjs_3, djs_3, mjs_3, quj_1) hv rfl dX1_takeStep_71
  · refine V_aload_n hc dX1_takeStep_11 0 rfl ?_
    refine V_get (C := RX1) (T := TX1) (N := 7) hc i_X1_takeStep_1 0 rfl rfl 0 (by decide) m_X1_takeStep_12 rfl dX1_takeStep_12 ?_
    refine V_aload_n hc dX1_takeStep_15 0 rfl ?_
    refine V_get (C := RX1) (T := TX1) (N := 7) hc i_X1_takeStep_1 0 rfl rfl 1 (by decide) m_X1_takeStep_18 rfl dX1_takeStep_16 ?_
    refine V_aload_n hc dX1_takeStep_19 0 rfl ?_
    refine V_get (C := RX1) (T := TX1) (N := 7) hc i_X1_takeStep_1 0 rfl rfl 3 (by decide) m_X1_takeStep_33 rfl dX1_takeStep_20 ?_
    refine V_iald hc 5 rfl (by decide) hv dX1_takeStep_23 (fun hv => ?_)
    refine V_callVI (As := [.int (iI (lij ncj.toNat))]) hc (wc := [oB hjs 3 [.ref kjsA, .ref djsA, .ref mjsA, .int (iI njs)], aI t kjsA 120 kjs, aI t djsA 120 djs, aZ t mjsA 120 mjs]) (wr := [oB hj 1 [.ref hjs, .ref lijA, .int (iI nlj), .int (iI ncj), .ref qujA, .int (iI nwj), .int (iI ruj)], aI t lijA 120 lij, aI t qujA 30 quj]) (pmI (ws := [oB hj 1 [.ref hjs, .ref lijA, .int (iI nlj), .int (iI ncj), .ref qujA, .int (iI nwj), .int (iI ruj)], oB hjs 3 [.ref kjsA, .ref djsA, .ref mjsA, .int (iI njs)], aI t kjsA 120 kjs, aI t djsA 120 djs, aZ t mjsA 120 mjs, aI t lijA 120 lij, aI t qujA 30 quj]) (ws1 := [oB hjs 3 [.ref kjsA, .ref djsA, .ref mjsA, .int (iI njs)], aI t kjsA 120 kjs, aI t djsA 120 djs, aZ t mjsA 120 mjs] ++ [oB hj 1 [.ref hjs, .ref lijA, .int (iI nlj), .int (iI ncj), .ref qujA, .int (iI nwj), .int (iI ruj)], aI t lijA 120 lij, aI t qujA 30 quj]) [1, 2, 3, 4, 0, 5, 6] 7 rfl (by decide +kernel) rfl) rfl rfl (met_X3_changeBy l D t hjs kjsA djsA mjsA njs kjs djs mjs (lij ncj.toNat) _ hv) rfl gX1_takeStep_X3_changeBy rfl ⟨rfl, rfl⟩ ok_X3_changeBy (by decide) (Nat.le_of_ble_eq_true rfl) dX1_takeStep_24 (by decide) (fun r_4 u9 hv => ?_)
    obtain ⟨njs_4, kjs_4, djs_4, mjs_4⟩ := u9
    try dsimp only at hv
    refine V_perm (ws1 := [oB hj 1 [.ref hjs, .ref lijA, .int (iI nlj), .int (iI ncj), .ref qujA, .int (iI nwj), .int (iI ruj)], oB hjs 3 [.ref kjsA, .ref djsA, .ref mjsA, .int (iI njs_4)], aI t kjsA 120 kjs_4, aI t djsA 120 djs_4, aZ t mjsA 120 mjs_4, aI t lijA 120 lij, aI t qujA 30 quj]) (pmI (ws := [oB hjs 3 [.ref kjsA, .ref djsA, .ref mjsA, .int (iI njs_4)], aI t kjsA 120 kjs_4, aI t djsA 120 djs_4, aZ t mjsA 120 mjs_4] ++ [oB hj 1 [.ref hjs, .ref lijA, .int (iI nlj), .int (iI ncj), .ref qujA, .int (iI nwj), .int (iI ruj)], aI t lijA 120 lij, aI t qujA 30 quj]) (ws1 := [oB hj 1 [.ref hjs, .ref lijA, .int (iI nlj), .int (iI ncj), .ref qujA, .int (iI nwj), .int (iI ruj)], oB hjs 3 [.ref kjsA, .ref djsA, .ref mjsA, .int (iI njs_4)], aI t kjsA 120 kjs_4, aI t djsA 120 djs_4, aZ t mjsA 120 mjs_4, aI t lijA 120 lij, aI t qujA 30 quj]) [4, 0, 1, 2, 3, 5, 6] 7 rfl (by decide +kernel) rfl) ?_
    refine V_pop hc dX1_takeStep_27 rfl ?_
    refine V_aload_n hc dX1_takeStep_28 0 rfl ?_
    refine V_dup hc dX1_takeStep_29 rfl ?_
    refine V_get (C := RX1) (T := TX1) (N := 7) hc i_X1_takeStep_1 0 rfl rfl 3 (by decide) m_X1_takeStep_33 rfl dX1_takeStep_30 ?_
    refine V_iconst hc dX1_takeStep_33 ?_
    refine V_iadd hc dX1_takeStep_34 ?_
    refine V_puti (C := RX1) (T := TX1) (N := 7) hc i_X1_takeStep_1 0 rfl rfl 3 (by decide) m_X1_takeStep_33 tyX1 tyX1_ok nmX1 rfl (by decide +kernel) (Nat.le_of_ble_eq_true rfl) dX1_takeStep_35 [oB hj 1 [.ref hjs, .ref lijA, .int (iI nlj), .int (iI (ncj + 1)), .ref qujA, .int (iI nwj), .int (iI ruj)], oB hjs 3 [.ref kjsA, .ref djsA, .ref mjsA, .int (iI njs_4)], aI t kjsA 120 kjs_4, aI t djsA 120 djs_4, aZ t mjsA 120 mjs_4, aI t lijA 120 lij, aI t qujA 30 quj] rfl ?_
    refine V_iconst hc dX1_takeStep_38 ?_
    exact V_iret hc hr (ncj + 1, nwj, njs_4, kjs_4, djs_4, mjs_4, quj) hv rfl dX1_takeStep_39
abbrev W1_X1_isComplete (t : Nat → ClassId) (hj : Nat) (hjs : Nat) (lijA : Nat) (qujA : Nat) (kjsA : Nat) (djsA : Nat) (mjsA : Nat) (nlj : Int) (ncj : Int) (nwj : Int) (ruj : Int) (njs : Int) (kjs : Nat → Int) (djs : Nat → Int) (mjs : Nat → Int) (lij : Nat → Int) (quj : Nat → Int) (u : Unit) : va_W := [oB hj 1 [.ref hjs, .ref lijA, .int (iI nlj), .int (iI ncj), .ref qujA, .int (iI nwj), .int (iI ruj)], oB hjs 3 [.ref kjsA, .ref djsA, .ref mjsA, .int (iI njs)], aI t kjsA 120 kjs, aI t djsA 120 djs, aZ t mjsA 120 mjs, aI t lijA 120 lij, aI t qujA 30 quj]
abbrev po_X1_isComplete (Q : Int → Prop) (r : Int) (u : Unit) : Prop := Q r
abbrev rm_X1_isComplete : Room := { frames := 0, cells := 0, slots := 0, locals := 0 }
def wp_X1_isComplete (nlj : Int) (ncj : Int) (nwj : Int) (Q : Int → Prop) : Prop := inR ncj ∧ inR nlj ∧ (ncj ≠ nlj → Q 0) ∧ (¬ (ncj ≠ nlj) → inR nwj ∧ (nwj ≠ 0 → Q 0) ∧ (¬ (nwj ≠ 0) → Q 1))
theorem m_X1_isComplete_33 : Cond.fieldLink RX1 33 "BackgroundRebuild$Rebuild" "copied" "I" ∈ wsX1_isComplete := by decide +kernel
theorem m_X1_isComplete_29 : Cond.fieldLink RX1 29 "BackgroundRebuild$Rebuild" "listed" "I" ∈ wsX1_isComplete := by decide +kernel
theorem m_X1_isComplete_36 : Cond.fieldLink RX1 36 "BackgroundRebuild$Rebuild" "waiting" "I" ∈ wsX1_isComplete := by decide +kernel
theorem i_X1_isComplete_1 : ∀ w ∈ u_ws RX1 TX1 7, w ∈ wsX1_isComplete := by decide +kernel
theorem ok_X1_isComplete : yX1_isComplete.cls = RX1 ∧ yX1_isComplete.cls ≠ "java/lang/invoke/MethodHandle" ∧ yX1_isComplete.cls ≠ "java/lang/invoke/VarHandle" ∧ (parseMethodDescriptor yX1_isComplete.desc).map (fun d => d.parameters.length) = some 0 := by decide +kernel
set_option maxHeartbeats 4000000 in
set_option maxRecDepth 100000 in
theorem met_X1_isComplete (l : Launch) (D : va_G) (t : Nat → ClassId) (hj : Nat) (hjs : Nat) (lijA : Nat) (qujA : Nat) (kjsA : Nat) (djsA : Nat) (mjsA : Nat) (nlj : Int) (ncj : Int) (nwj : Int) (ruj : Int) (njs : Int) (kjs : Nat → Int) (djs : Nat → Int) (mjs : Nat → Int) (lij : Nat → Int) (quj : Nat → Int) (Q : Int → Prop) (hv : wp_X1_isComplete nlj ncj nwj Q) : MI l D t yX1_isComplete wsX1_isComplete rm_X1_isComplete [.ref hj] [oB hj 1 [.ref hjs, .ref lijA, .int (iI nlj), .int (iI ncj), .ref qujA, .int (iI nwj), .int (iI ruj)], oB hjs 3 [.ref kjsA, .ref djsA, .ref mjsA, .int (iI njs)], aI t kjsA 120 kjs, aI t djsA 120 djs, aZ t mjsA 120 mjs, aI t lijA 120 lij, aI t qujA 30 quj] (W1_X1_isComplete t hj hjs lijA qujA kjsA djsA mjsA nlj ncj nwj ruj njs kjs djs mjs lij quj) (po_X1_isComplete Q) 0 0 := by
  refine M_ofz (cc := cX1_isComplete) (nL := 1) (by decide) rfl (Nat.le_of_ble_eq_true rfl) ?_
  intro p e s m args below meth c A hc hr
  refine V_lv [0] [(0, .ref hj)] rfl ?_
  unfold wp_X1_isComplete at hv
  refine V_aload_n hc dX1_isComplete_0 0 rfl ?_
  refine V_get (C := RX1) (T := TX1) (N := 7) hc i_X1_isComplete_1 0 rfl rfl 3 (by decide) m_X1_isComplete_33 rfl dX1_isComplete_1 ?_
  refine V_aload_n hc dX1_isComplete_4 0 rfl ?_
  refine V_get (C := RX1) (T := TX1) (N := 7) hc i_X1_isComplete_1 0 rfl rfl 2 (by decide) m_X1_isComplete_29 rfl dX1_isComplete_5 ?_
  refine V_icmp_ne (tgt := 22) hc dX1_isComplete_8 (by decide) hv (fun hv => ?_) (fun hv => ?_)
  · refine V_iconst hc dX1_isComplete_22 ?_
    exact V_zret hc hr () ⟨by decide, hv⟩ rfl dX1_isComplete_23
  · refine V_aload_n hc dX1_isComplete_11 0 rfl ?_
    refine V_get (C := RX1) (T := TX1) (N := 7) hc i_X1_isComplete_1 0 rfl rfl 5 (by decide) m_X1_isComplete_36 rfl dX1_isComplete_12 ?_
    refine V_if_ne (tgt := 22) hc dX1_isComplete_15 (by decide) hv (fun hv => ?_) (fun hv => ?_)
    · refine V_iconst hc dX1_isComplete_22 ?_
      exact V_zret hc hr () ⟨by decide, hv⟩ rfl dX1_isComplete_23
    · refine V_iconst hc dX1_isComplete_18 ?_
      refine V_goto (tgt := 23) hc dX1_isComplete_19 (by decide) ?_
      exact V_zret hc hr () ⟨by decide, hv⟩ rfl dX1_isComplete_23
abbrev W1_X1_condition (t : Nat → ClassId) (hj : Nat) (hjs : Nat) (lijA : Nat) (qujA : Nat) (kjsA : Nat) (djsA : Nat) (mjsA : Nat) (nlj : Int) (ncj : Int) (nwj : Int) (ruj : Int) (njs : Int) (kjs : Nat → Int) (djs : Nat → Int) (mjs : Nat → Int) (lij : Nat → Int) (quj : Nat → Int) (u : Unit) : va_W := [oB hj 1 [.ref hjs, .ref lijA, .int (iI nlj), .int (iI ncj), .ref qujA, .int (iI nwj), .int (iI ruj)], oB hjs 3 [.ref kjsA, .ref djsA, .ref mjsA, .int (iI njs)], aI t kjsA 120 kjs, aI t djsA 120 djs, aZ t mjsA 120 mjs, aI t lijA 120 lij, aI t qujA 30 quj]
abbrev po_X1_condition (Q : Int → Prop) (r : Int) (u : Unit) : Prop := Q r
abbrev rm_X1_condition : Room := { frames := 0, cells := 0, slots := 0, locals := 0 }
def wp_X1_condition (nlj : Int) (ncj : Int) (ruj : Int) (Q : Int → Prop) : Prop := inR ruj ∧ (ruj ≠ 0 → inR ncj ∧ inR nlj ∧ (ncj ≥ nlj → Q 2) ∧ (¬ (ncj ≥ nlj) → Q 1)) ∧ (¬ (ruj ≠ 0) → Q 0)
theorem m_X1_condition_39 : Cond.fieldLink RX1 39 "BackgroundRebuild$Rebuild" "running" "Z" ∈ wsX1_condition := by decide +kernel
theorem m_X1_condition_33 : Cond.fieldLink RX1 33 "BackgroundRebuild$Rebuild" "copied" "I" ∈ wsX1_condition := by decide +kernel
theorem m_X1_condition_29 : Cond.fieldLink RX1 29 "BackgroundRebuild$Rebuild" "listed" "I" ∈ wsX1_condition := by decide +kernel
theorem i_X1_condition_1 : ∀ w ∈ u_ws RX1 TX1 7, w ∈ wsX1_condition := by decide +kernel
theorem ok_X1_condition : yX1_condition.cls = RX1 ∧ yX1_condition.cls ≠ "java/lang/invoke/MethodHandle" ∧ yX1_condition.cls ≠ "java/lang/invoke/VarHandle" ∧ (parseMethodDescriptor yX1_condition.desc).map (fun d => d.parameters.length) = some 0 := by decide +kernel
set_option maxHeartbeats 4000000 in
set_option maxRecDepth 100000 in
theorem met_X1_condition (l : Launch) (D : va_G) (t : Nat → ClassId) (hj : Nat) (hjs : Nat) (lijA : Nat) (qujA : Nat) (kjsA : Nat) (djsA : Nat) (mjsA : Nat) (nlj : Int) (ncj : Int) (nwj : Int) (ruj : Int) (njs : Int) (kjs : Nat → Int) (djs : Nat → Int) (mjs : Nat → Int) (lij : Nat → Int) (quj : Nat → Int) (Q : Int → Prop) (hv : wp_X1_condition nlj ncj ruj Q) : MI l D t yX1_condition wsX1_condition rm_X1_condition [.ref hj] [oB hj 1 [.ref hjs, .ref lijA, .int (iI nlj), .int (iI ncj), .ref qujA, .int (iI nwj), .int (iI ruj)], oB hjs 3 [.ref kjsA, .ref djsA, .ref mjsA, .int (iI njs)], aI t kjsA 120 kjs, aI t djsA 120 djs, aZ t mjsA 120 mjs, aI t lijA 120 lij, aI t qujA 30 quj] (W1_X1_condition t hj hjs lijA qujA kjsA djsA mjsA nlj ncj nwj ruj njs kjs djs mjs lij quj) (po_X1_condition Q) 0 0 := by
  refine M_ofi (cc := cX1_condition) (nL := 1) (by decide) rfl (Nat.le_of_ble_eq_true rfl) ?_
  intro p e s m args below meth c A hc hr
  refine V_lv [0] [(0, .ref hj)] rfl ?_
  unfold wp_X1_condition at hv
  refine V_aload_n hc dX1_condition_0 0 rfl ?_
  refine V_get (C := RX1) (T := TX1) (N := 7) hc i_X1_condition_1 0 rfl rfl 6 (by decide) m_X1_condition_39 rfl dX1_condition_1 ?_
  refine V_if_ne (tgt := 9) hc dX1_condition_4 (by decide) hv (fun hv => ?_) (fun hv => ?_)
  · refine V_aload_n hc dX1_condition_9 0 rfl ?_
    refine V_get (C := RX1) (T := TX1) (N := 7) hc i_X1_condition_1 0 rfl rfl 3 (by decide) m_X1_condition_33 rfl dX1_condition_10 ?_
    refine V_aload_n hc dX1_condition_13 0 rfl ?_
    refine V_get (C := RX1) (T := TX1) (N := 7) hc i_X1_condition_1 0 rfl rfl 2 (by decide) m_X1_condition_29 rfl dX1_condition_14 ?_
    refine V_icmp_ge (tgt := 24) hc dX1_condition_17 (by decide) hv (fun hv => ?_) (fun hv => ?_)
    · refine V_iconst hc dX1_condition_24 ?_
      exact V_iret hc hr () hv rfl dX1_condition_25
    · refine V_iconst hc dX1_condition_20 ?_
      refine V_goto (tgt := 25) hc dX1_condition_21 (by decide) ?_
      exact V_iret hc hr () hv rfl dX1_condition_25
  · refine V_iconst hc dX1_condition_7 ?_
    exact V_iret hc hr () hv rfl dX1_condition_8
abbrev W1_X1_nextKey (t : Nat → ClassId) (hj : Nat) (hjs : Nat) (lijA : Nat) (qujA : Nat) (kjsA : Nat) (djsA : Nat) (mjsA : Nat) (nlj : Int) (ncj : Int) (nwj : Int) (ruj : Int) (njs : Int) (kjs : Nat → Int) (djs : Nat → Int) (mjs : Nat → Int) (lij : Nat → Int) (quj : Nat → Int) (u : Unit) : va_W := [oB hj 1 [.ref hjs, .ref lijA, .int (iI nlj), .int (iI ncj), .ref qujA, .int (iI nwj), .int (iI ruj)], oB hjs 3 [.ref kjsA, .ref djsA, .ref mjsA, .int (iI njs)], aI t kjsA 120 kjs, aI t djsA 120 djs, aZ t mjsA 120 mjs, aI t lijA 120 lij, aI t qujA 30 quj]
abbrev po_X1_nextKey (Q : Int → Prop) (r : Int) (u : Unit) : Prop := Q r
abbrev rm_X1_nextKey : Room := { frames := 0, cells := 0, slots := 0, locals := 0 }
def wp_X1_nextKey (nlj : Int) (ncj : Int) (lij : Nat → Int) (Q : Int → Prop) : Prop := inR ncj ∧ inR nlj ∧ (ncj ≥ nlj → Q (-1)) ∧ (¬ (ncj ≥ nlj) → (0 ≤ ncj ∧ ncj < 120) ∧ Q (lij ncj.toNat))
theorem m_X1_nextKey_33 : Cond.fieldLink RX1 33 "BackgroundRebuild$Rebuild" "copied" "I" ∈ wsX1_nextKey := by decide +kernel
theorem m_X1_nextKey_29 : Cond.fieldLink RX1 29 "BackgroundRebuild$Rebuild" "listed" "I" ∈ wsX1_nextKey := by decide +kernel
theorem m_X1_nextKey_18 : Cond.fieldLink RX1 18 "BackgroundRebuild$Rebuild" "list" "[I" ∈ wsX1_nextKey := by decide +kernel
theorem i_X1_nextKey_1 : ∀ w ∈ u_ws RX1 TX1 7, w ∈ wsX1_nextKey := by decide +kernel
theorem ok_X1_nextKey : yX1_nextKey.cls = RX1 ∧ yX1_nextKey.cls ≠ "java/lang/invoke/MethodHandle" ∧ yX1_nextKey.cls ≠ "java/lang/invoke/VarHandle" ∧ (parseMethodDescriptor yX1_nextKey.desc).map (fun d => d.parameters.length) = some 0 := by decide +kernel
set_option maxHeartbeats 4000000 in
set_option maxRecDepth 100000 in
theorem met_X1_nextKey (l : Launch) (D : va_G) (t : Nat → ClassId) (hj : Nat) (hjs : Nat) (lijA : Nat) (qujA : Nat) (kjsA : Nat) (djsA : Nat) (mjsA : Nat) (nlj : Int) (ncj : Int) (nwj : Int) (ruj : Int) (njs : Int) (kjs : Nat → Int) (djs : Nat → Int) (mjs : Nat → Int) (lij : Nat → Int) (quj : Nat → Int) (Q : Int → Prop) (hv : wp_X1_nextKey nlj ncj lij Q) : MI l D t yX1_nextKey wsX1_nextKey rm_X1_nextKey [.ref hj] [oB hj 1 [.ref hjs, .ref lijA, .int (iI nlj), .int (iI ncj), .ref qujA, .int (iI nwj), .int (iI ruj)], oB hjs 3 [.ref kjsA, .ref djsA, .ref mjsA, .int (iI njs)], aI t kjsA 120 kjs, aI t djsA 120 djs, aZ t mjsA 120 mjs, aI t lijA 120 lij, aI t qujA 30 quj] (W1_X1_nextKey t hj hjs lijA qujA kjsA djsA mjsA nlj ncj nwj ruj njs kjs djs mjs lij quj) (po_X1_nextKey Q) 0 0 := by
  refine M_ofi (cc := cX1_nextKey) (nL := 1) (by decide) rfl (Nat.le_of_ble_eq_true rfl) ?_
  intro p e s m args below meth c A hc hr
  refine V_lv [0] [(0, .ref hj)] rfl ?_
  unfold wp_X1_nextKey at hv
  refine V_aload_n hc dX1_nextKey_0 0 rfl ?_
  refine V_get (C := RX1) (T := TX1) (N := 7) hc i_X1_nextKey_1 0 rfl rfl 3 (by decide) m_X1_nextKey_33 rfl dX1_nextKey_1 ?_
  refine V_aload_n hc dX1_nextKey_4 0 rfl ?_
  refine V_get (C := RX1) (T := TX1) (N := 7) hc i_X1_nextKey_1 0 rfl rfl 2 (by decide) m_X1_nextKey_29 rfl dX1_nextKey_5 ?_
  refine V_icmp_ge (tgt := 23) hc dX1_nextKey_8 (by decide) hv (fun hv => ?_) (fun hv => ?_)
  · refine V_iconst hc dX1_nextKey_23 ?_
    exact V_iret hc hr () hv rfl dX1_nextKey_24
  · refine V_aload_n hc dX1_nextKey_11 0 rfl ?_
    refine V_get (C := RX1) (T := TX1) (N := 7) hc i_X1_nextKey_1 0 rfl rfl 1 (by decide) m_X1_nextKey_18 rfl dX1_nextKey_12 ?_
    refine V_aload_n hc dX1_nextKey_15 0 rfl ?_
    refine V_get (C := RX1) (T := TX1) (N := 7) hc i_X1_nextKey_1 0 rfl rfl 3 (by decide) m_X1_nextKey_33 rfl dX1_nextKey_16 ?_
    refine V_iald hc 5 rfl (by decide) hv dX1_nextKey_19 (fun hv => ?_)
    refine V_goto (tgt := 24) hc dX1_nextKey_20 (by decide) ?_
    exact V_iret hc hr () hv rfl dX1_nextKey_24
abbrev W1_X1_stepsLeft (t : Nat → ClassId) (hj : Nat) (hjs : Nat) (lijA : Nat) (qujA : Nat) (kjsA : Nat) (djsA : Nat) (mjsA : Nat) (nlj : Int) (ncj : Int) (nwj : Int) (ruj : Int) (njs : Int) (kjs : Nat → Int) (djs : Nat → Int) (mjs : Nat → Int) (lij : Nat → Int) (quj : Nat → Int) (u : Unit) : va_W := [oB hj 1 [.ref hjs, .ref lijA, .int (iI nlj), .int (iI ncj), .ref qujA, .int (iI nwj), .int (iI ruj)], oB hjs 3 [.ref kjsA, .ref djsA, .ref mjsA, .int (iI njs)], aI t kjsA 120 kjs, aI t djsA 120 djs, aZ t mjsA 120 mjs, aI t lijA 120 lij, aI t qujA 30 quj]
abbrev po_X1_stepsLeft (Q : Int → Prop) (r : Int) (u : Unit) : Prop := Q r
abbrev rm_X1_stepsLeft : Room := { frames := 1, cells := 0, slots := 0, locals := 40 }
def wp_X1_stepsLeft (nlj : Int) (ncj : Int) (nwj : Int) (Q : Int → Prop) : Prop := inR ((nlj - ncj) + nwj) ∧ Q (max 1 ((nlj - ncj) + nwj))
theorem m_X1_stepsLeft_29 : Cond.fieldLink RX1 29 "BackgroundRebuild$Rebuild" "listed" "I" ∈ wsX1_stepsLeft := by decide +kernel
theorem m_X1_stepsLeft_33 : Cond.fieldLink RX1 33 "BackgroundRebuild$Rebuild" "copied" "I" ∈ wsX1_stepsLeft := by decide +kernel
theorem m_X1_stepsLeft_36 : Cond.fieldLink RX1 36 "BackgroundRebuild$Rebuild" "waiting" "I" ∈ wsX1_stepsLeft := by decide +kernel
theorem m_X1_stepsLeft_mx71 : Cond.methodLink RX1 71 Lib.Math.max.name ∈ wsX1_stepsLeft := by decide +kernel
theorem m_X1_stepsLeft_mxs : Cond.static Lib.Math.max.name ∈ wsX1_stepsLeft := by decide +kernel
theorem m_X1_stepsLeft_mxi : Cond.initialized "java/lang/Math" ∈ wsX1_stepsLeft := by decide +kernel
theorem m_X1_stepsLeft_mxc : Cond.code Lib.Math.max.name Lib.Math.max.code 2 (some .int) ∈ wsX1_stepsLeft := by decide +kernel
theorem i_X1_stepsLeft_1 : ∀ w ∈ u_ws RX1 TX1 7, w ∈ wsX1_stepsLeft := by decide +kernel
theorem ok_X1_stepsLeft : yX1_stepsLeft.cls = RX1 ∧ yX1_stepsLeft.cls ≠ "java/lang/invoke/MethodHandle" ∧ yX1_stepsLeft.cls ≠ "java/lang/invoke/VarHandle" ∧ (parseMethodDescriptor yX1_stepsLeft.desc).map (fun d => d.parameters.length) = some 0 := by decide +kernel
set_option maxHeartbeats 4000000 in
set_option maxRecDepth 100000 in
theorem met_X1_stepsLeft (l : Launch) (D : va_G) (t : Nat → ClassId) (hj : Nat) (hjs : Nat) (lijA : Nat) (qujA : Nat) (kjsA : Nat) (djsA : Nat) (mjsA : Nat) (nlj : Int) (ncj : Int) (nwj : Int) (ruj : Int) (njs : Int) (kjs : Nat → Int) (djs : Nat → Int) (mjs : Nat → Int) (lij : Nat → Int) (quj : Nat → Int) (Q : Int → Prop) (hv : wp_X1_stepsLeft nlj ncj nwj Q) : MI l D t yX1_stepsLeft wsX1_stepsLeft rm_X1_stepsLeft [.ref hj] [oB hj 1 [.ref hjs, .ref lijA, .int (iI nlj), .int (iI ncj), .ref qujA, .int (iI nwj), .int (iI ruj)], oB hjs 3 [.ref kjsA, .ref djsA, .ref mjsA, .int (iI njs)], aI t kjsA 120 kjs, aI t djsA 120 djs, aZ t mjsA 120 mjs, aI t lijA 120 lij, aI t qujA 30 quj] (W1_X1_stepsLeft t hj hjs lijA qujA kjsA djsA mjsA nlj ncj nwj ruj njs kjs djs mjs lij quj) (po_X1_stepsLeft Q) 0 0 := by
  refine M_ofi (cc := cX1_stepsLeft) (nL := 1) (by decide) rfl (Nat.le_of_ble_eq_true rfl) ?_
  intro p e s m args below meth c A hc hr
  refine V_lv [0] [(0, .ref hj)] rfl ?_
  unfold wp_X1_stepsLeft at hv
  refine V_iconst hc dX1_stepsLeft_0 ?_
  refine V_aload_n hc dX1_stepsLeft_1 0 rfl ?_
  refine V_get (C := RX1) (T := TX1) (N := 7) hc i_X1_stepsLeft_1 0 rfl rfl 2 (by decide) m_X1_stepsLeft_29 rfl dX1_stepsLeft_2 ?_
  refine V_aload_n hc dX1_stepsLeft_5 0 rfl ?_
  refine V_get (C := RX1) (T := TX1) (N := 7) hc i_X1_stepsLeft_1 0 rfl rfl 3 (by decide) m_X1_stepsLeft_33 rfl dX1_stepsLeft_6 ?_
  refine V_isub hc dX1_stepsLeft_9 ?_
  refine V_aload_n hc dX1_stepsLeft_10 0 rfl ?_
  refine V_get (C := RX1) (T := TX1) (N := 7) hc i_X1_stepsLeft_1 0 rfl rfl 5 (by decide) m_X1_stepsLeft_36 rfl dX1_stepsLeft_11 ?_
  refine V_iadd hc dX1_stepsLeft_14 ?_
  refine V_max hc m_X1_stepsLeft_mx71 m_X1_stepsLeft_mxs m_X1_stepsLeft_mxi m_X1_stepsLeft_mxc (by decide) (Nat.le_of_ble_eq_true rfl) (by decide) ⟨by decide, hv⟩ dX1_stepsLeft_15 (fun hv => ?_)
  exact V_iret hc hr () hv rfl dX1_stepsLeft_18
abbrev W1_X1_callsLeft (t : Nat → ClassId) (hj : Nat) (hjs : Nat) (lijA : Nat) (qujA : Nat) (kjsA : Nat) (djsA : Nat) (mjsA : Nat) (nlj : Int) (ncj : Int) (nwj : Int) (ruj : Int) (njs : Int) (kjs : Nat → Int) (djs : Nat → Int) (mjs : Nat → Int) (lij : Nat → Int) (quj : Nat → Int) (u : Unit) : va_W := [oB hj 1 [.ref hjs, .ref lijA, .int (iI nlj), .int (iI ncj), .ref qujA, .int (iI nwj), .int (iI ruj)], oB hjs 3 [.ref kjsA, .ref djsA, .ref mjsA, .int (iI njs)], aI t kjsA 120 kjs, aI t djsA 120 djs, aZ t mjsA 120 mjs, aI t lijA 120 lij, aI t qujA 30 quj]
abbrev po_X1_callsLeft (Q : Int → Prop) (r : Int) (u : Unit) : Prop := Q r
abbrev rm_X1_callsLeft : Room := { frames := 2, cells := 0, slots := 0, locals := 60 }
def wp_X1_callsLeft (nlj : Int) (ncj : Int) (nwj : Int) (x1 : Int) (Q : Int → Prop) : Prop := inR x1 ∧ (x1 ≥ 1 → wp_X1_stepsLeft nlj ncj nwj (fun r_1 => (0 ≤ (r_1 + x1) - 1 ∧ (r_1 + x1) - 1 ≤ 2147483647) ∧ (0 < x1 ∧ x1 ≤ 2147483647) ∧ Q (((r_1 + x1) - 1) / x1))) ∧ (¬ (x1 ≥ 1) → Q (-1))
theorem ok_X1_callsLeft : yX1_callsLeft.cls = RX1 ∧ yX1_callsLeft.cls ≠ "java/lang/invoke/MethodHandle" ∧ yX1_callsLeft.cls ≠ "java/lang/invoke/VarHandle" ∧ (parseMethodDescriptor yX1_callsLeft.desc).map (fun d => d.parameters.length) = some 1 := by decide +kernel
set_option maxHeartbeats 4000000 in
set_option maxRecDepth 100000 in
theorem met_X1_callsLeft (l : Launch) (D : va_G) (t : Nat → ClassId) (hj : Nat) (hjs : Nat) (lijA : Nat) (qujA : Nat) (kjsA : Nat) (djsA : Nat) (mjsA : Nat) (nlj : Int) (ncj : Int) (nwj : Int) (ruj : Int) (njs : Int) (kjs : Nat → Int) (djs : Nat → Int) (mjs : Nat → Int) (lij : Nat → Int) (quj : Nat → Int) (x1 : Int) (Q : Int → Prop) (hv : wp_X1_callsLeft nlj ncj nwj x1 Q) : MI l D t yX1_callsLeft wsX1_callsLeft rm_X1_callsLeft [.ref hj, .int (iI x1)] [oB hj 1 [.ref hjs, .ref lijA, .int (iI nlj), .int (iI ncj), .ref qujA, .int (iI nwj), .int (iI ruj)], oB hjs 3 [.ref kjsA, .ref djsA, .ref mjsA, .int (iI njs)], aI t kjsA 120 kjs, aI t djsA 120 djs, aZ t mjsA 120 mjs, aI t lijA 120 lij, aI t qujA 30 quj] (W1_X1_callsLeft t hj hjs lijA qujA kjsA djsA mjsA nlj ncj nwj ruj njs kjs djs mjs lij quj) (po_X1_callsLeft Q) 0 0 := by
  refine M_ofi (cc := cX1_callsLeft) (nL := 2) (by decide) rfl (Nat.le_of_ble_eq_true rfl) ?_
  intro p e s m args below meth c A hc hr
  refine V_lv [0, 1] [(0, .ref hj), (1, .int (iI x1))] rfl ?_
  unfold wp_X1_callsLeft at hv
  refine V_iload_n hc dX1_callsLeft_0 1 rfl ?_
  refine V_iconst hc dX1_callsLeft_1 ?_
  refine V_icmp_ge (tgt := 9) hc dX1_callsLeft_2 (by decide) ⟨hv.1, by decide, hv.2⟩ (fun hv => ?_) (fun hv => ?_)
  · refine V_aload_n hc dX1_callsLeft_9 0 rfl ?_
    refine V_callVI (As := []) hc (wc := [oB hj 1 [.ref hjs, .ref lijA, .int (iI nlj), .int (iI ncj), .ref qujA, .int (iI nwj), .int (iI ruj)], oB hjs 3 [.ref kjsA, .ref djsA, .ref mjsA, .int (iI njs)], aI t kjsA 120 kjs, aI t djsA 120 djs, aZ t mjsA 120 mjs, aI t lijA 120 lij, aI t qujA 30 quj]) (wr := []) (pmI (ws := [oB hj 1 [.ref hjs, .ref lijA, .int (iI nlj), .int (iI ncj), .ref qujA, .int (iI nwj), .int (iI ruj)], oB hjs 3 [.ref kjsA, .ref djsA, .ref mjsA, .int (iI njs)], aI t kjsA 120 kjs, aI t djsA 120 djs, aZ t mjsA 120 mjs, aI t lijA 120 lij, aI t qujA 30 quj]) (ws1 := [oB hj 1 [.ref hjs, .ref lijA, .int (iI nlj), .int (iI ncj), .ref qujA, .int (iI nwj), .int (iI ruj)], oB hjs 3 [.ref kjsA, .ref djsA, .ref mjsA, .int (iI njs)], aI t kjsA 120 kjs, aI t djsA 120 djs, aZ t mjsA 120 mjs, aI t lijA 120 lij, aI t qujA 30 quj] ++ []) [0, 1, 2, 3, 4, 5, 6] 7 rfl (by decide +kernel) rfl) rfl rfl (met_X1_stepsLeft l D t hj hjs lijA qujA kjsA djsA mjsA nlj ncj nwj ruj njs kjs djs mjs lij quj _ hv) rfl gX1_callsLeft_X1_stepsLeft rfl ⟨rfl, rfl⟩ ok_X1_stepsLeft (by decide) (Nat.le_of_ble_eq_true rfl) dX1_callsLeft_10 (by decide) (fun r_1 _ hv => ?_)
    try dsimp only at hv
    refine V_perm (ws1 := [oB hj 1 [.ref hjs, .ref lijA, .int (iI nlj), .int (iI ncj), .ref qujA, .int (iI nwj), .int (iI ruj)], oB hjs 3 [.ref kjsA, .ref djsA, .ref mjsA, .int (iI njs)], aI t kjsA 120 kjs, aI t djsA 120 djs, aZ t mjsA 120 mjs, aI t lijA 120 lij, aI t qujA 30 quj]) (pmI (ws := [oB hj 1 [.ref hjs, .ref lijA, .int (iI nlj), .int (iI ncj), .ref qujA, .int (iI nwj), .int (iI ruj)], oB hjs 3 [.ref kjsA, .ref djsA, .ref mjsA, .int (iI njs)], aI t kjsA 120 kjs, aI t djsA 120 djs, aZ t mjsA 120 mjs, aI t lijA 120 lij, aI t qujA 30 quj] ++ []) (ws1 := [oB hj 1 [.ref hjs, .ref lijA, .int (iI nlj), .int (iI ncj), .ref qujA, .int (iI nwj), .int (iI ruj)], oB hjs 3 [.ref kjsA, .ref djsA, .ref mjsA, .int (iI njs)], aI t kjsA 120 kjs, aI t djsA 120 djs, aZ t mjsA 120 mjs, aI t lijA 120 lij, aI t qujA 30 quj]) [0, 1, 2, 3, 4, 5, 6] 7 rfl (by decide +kernel) rfl) ?_
    refine V_iload_n hc dX1_callsLeft_13 1 rfl ?_
    refine V_iadd hc dX1_callsLeft_14 ?_
    refine V_iconst hc dX1_callsLeft_15 ?_
    refine V_isub hc dX1_callsLeft_16 ?_
    refine V_iload_n hc dX1_callsLeft_17 1 rfl ?_
    refine V_idiv hc dX1_callsLeft_18 hv (fun hv => ?_)
    exact V_iret hc hr () hv rfl dX1_callsLeft_19
  · refine V_iconst hc dX1_callsLeft_5 ?_
    refine V_goto (tgt := 19) hc dX1_callsLeft_6 (by decide) ?_
    exact V_iret hc hr () hv rfl dX1_callsLeft_19
abbrev W1_X0_put (t : Nat → ClassId) (hX : Nat) (chXA : Nat) (u : (Int) × (Nat → Int)) : va_W := [oB hX 0 [.ref chXA, .int (iI u.1)], aC t chXA 60 u.2]
abbrev po_X0_put (Q : (Int) → (Nat → Int) → Prop) (u : (Int) × (Nat → Int)) : Prop := Q u.1 u.2
abbrev rm_X0_put : Room := { frames := 0, cells := 0, slots := 0, locals := 0 }
def wp_X0_put (leX : Int) (chX : Nat → Int) (x1 : Int) (Q : (Int) → (Nat → Int) → Prop) : Prop := inR leX ∧ (leX ≥ 60 → Q leX chX) ∧ (¬ (leX ≥ 60) → (0 ≤ x1 ∧ x1 ≤ 65535) ∧ (0 ≤ leX ∧ leX < 60) ∧ (0 ≤ x1 ∧ x1 ≤ 65535) ∧ Q (leX + 1) (uI chX (leX.toNat) x1))
theorem m_X0_put_15 : Cond.fieldLink RX0 15 "BackgroundRebuild$ActText" "length" "I" ∈ wsX0_put := by decide +kernel
theorem m_X0_put_9 : Cond.fieldLink RX0 9 "BackgroundRebuild$ActText" "characters" "[C" ∈ wsX0_put := by decide +kernel
theorem i_X0_put_0 : ∀ w ∈ u_ws RX0 TX0 2, w ∈ wsX0_put := by decide +kernel
theorem ok_X0_put : yX0_put.cls = RX0 ∧ yX0_put.cls ≠ "java/lang/invoke/MethodHandle" ∧ yX0_put.cls ≠ "java/lang/invoke/VarHandle" ∧ (parseMethodDescriptor yX0_put.desc).map (fun d => d.parameters.length) = some 1 := by decide +kernel
set_option maxHeartbeats 4000000 in
set_option maxRecDepth 100000 in
theorem met_X0_put (l : Launch) (D : va_G) (t : Nat → ClassId) (hX : Nat) (chXA : Nat) (leX : Int) (chX : Nat → Int) (x1 : Int) (Q : (Int) → (Nat → Int) → Prop) (hv : wp_X0_put leX chX x1 Q) : MV l D t yX0_put wsX0_put rm_X0_put [.ref hX, .int (iI x1)] [oB hX 0 [.ref chXA, .int (iI leX)], aC t chXA 60 chX] (W1_X0_put t hX chXA) (po_X0_put Q) 0 0 := by
  refine M_ofv (cc := cX0_put) (nL := 2) (by decide) rfl (Nat.le_of_ble_eq_true rfl) ?_
  intro p e s m args below meth c A hc hr
  refine V_lv [0, 1] [(0, .ref hX), (1, .int (iI x1))] rfl ?_
  unfold wp_X0_put at hv
  refine V_aload_n hc dX0_put_0 0 rfl ?_
  refine V_get (C := RX0) (T := TX0) (N := 2) hc i_X0_put_0 0 rfl rfl 1 (by decide) m_X0_put_15 rfl dX0_put_1 ?_
  refine V_bipush hc dX0_put_4 (by decide) ?_
  refine V_icmp_ge (tgt := 30) hc dX0_put_6 (by decide) ⟨hv.1, by decide, hv.2⟩ (fun hv => ?_) (fun hv => ?_)
  · exact V_vret hc hr (leX, chX) hv rfl dX0_put_30
  · refine V_aload_n hc dX0_put_9 0 rfl ?_
    refine V_get (C := RX0) (T := TX0) (N := 2) hc i_X0_put_0 0 rfl rfl 0 (by decide) m_X0_put_9 rfl dX0_put_10 ?_
    refine V_aload_n hc dX0_put_13 0 rfl ?_
    refine V_get (C := RX0) (T := TX0) (N := 2) hc i_X0_put_0 0 rfl rfl 1 (by decide) m_X0_put_15 rfl dX0_put_14 ?_
    refine V_iload_n hc dX0_put_17 1 rfl ?_
    refine V_i2c hc dX0_put_18 hv (fun hv => ?_)
    refine V_cast hc 1 rfl (by decide) hv dX0_put_19 [oB hX 0 [.ref chXA, .int (iI leX)], aC t chXA 60 (uI chX (leX.toNat) x1)] rfl (fun hv => ?_)
    refine V_aload_n hc dX0_put_20 0 rfl ?_
    refine V_dup hc dX0_put_21 rfl ?_
    refine V_get (C := RX0) (T := TX0) (N := 2) hc i_X0_put_0 0 rfl rfl 1 (by decide) m_X0_put_15 rfl dX0_put_22 ?_
    refine V_iconst hc dX0_put_25 ?_
    refine V_iadd hc dX0_put_26 ?_
    refine V_puti (C := RX0) (T := TX0) (N := 2) hc i_X0_put_0 0 rfl rfl 1 (by decide) m_X0_put_15 tyX0 tyX0_ok nmX0 rfl (by decide +kernel) (Nat.le_of_ble_eq_true rfl) dX0_put_27 [oB hX 0 [.ref chXA, .int (iI (leX + 1))], aC t chXA 60 (uI chX (leX.toNat) x1)] rfl ?_
    exact V_vret hc hr (leX + 1, uI chX (leX.toNat) x1) hv rfl dX0_put_30
abbrev W1_X0_readOn (t : Nat → ClassId) (u : Unit) : va_W := []
abbrev po_X0_readOn (Q : Int → Prop) (r : Int) (u : Unit) : Prop := Q r
abbrev rm_X0_readOn : Room := { frames := 0, cells := 0, slots := 0, locals := 0 }
def wp_X0_readOn_17 (x0 : Int) (x1 : Int) (s0 : Int) (Q : Int → Prop) : Prop := inR x0 ∧ (x0 ≠ 500 → inR x0 ∧ (x0 ≠ 501 → inR x1 ∧ (x1 ≠ 59 → inR s0 ∧ (s0 = 0 → Q 503) ∧ (¬ (s0 = 0) → inR x0 ∧ (x0 = 502 → Q 503) ∧ (¬ (x0 = 502) → inR x0 ∧ (x0 ≠ 0 → inR (((10 * x0) + x1) - 48) ∧ (((10 * x0) + x1) - 48 ≥ 500 → Q 503) ∧ (¬ (((10 * x0) + x1) - 48 ≥ 500) → Q (((10 * x0) + x1) - 48))) ∧ (¬ (x0 ≠ 0) → Q 503)))) ∧ (¬ (x1 ≠ 59) → Q 500)) ∧ (¬ (x0 ≠ 501) → inR s0 ∧ (s0 = 0 → Q 503) ∧ (¬ (s0 = 0) → Q (x1 - 48)))) ∧ (¬ (x0 ≠ 500) → inR x1 ∧ (x1 ≠ 46 → inR x1 ∧ (x1 = 43 → Q 501) ∧ (¬ (x1 = 43) → inR x1 ∧ (x1 ≠ 45 → Q 503) ∧ (¬ (x1 ≠ 45) → Q 501))) ∧ (¬ (x1 ≠ 46) → Q 502))
def wp_X0_readOn_16 (x0 : Int) (x1 : Int) (Q : Int → Prop) : Prop := wp_X0_readOn_17 x0 x1 0 Q
def wp_X0_readOn (x0 : Int) (x1 : Int) (Q : Int → Prop) : Prop := inR x1 ∧ (x1 < 48 → wp_X0_readOn_16 x0 x1 Q) ∧ (¬ (x1 < 48) → inR x1 ∧ (x1 > 57 → wp_X0_readOn_16 x0 x1 Q) ∧ (¬ (x1 > 57) → wp_X0_readOn_17 x0 x1 1 Q))
theorem ok_X0_readOn : yX0_readOn.cls ≠ "java/lang/invoke/MethodHandle" ∧ yX0_readOn.cls ≠ "java/lang/invoke/VarHandle" ∧ (parseMethodDescriptor yX0_readOn.desc).map (fun d => d.parameters.length) = some 2 := by decide +kernel
set_option maxHeartbeats 4000000 in
set_option maxRecDepth 100000 in
theorem met_X0_readOn (l : Launch) (D : va_G) (t : Nat → ClassId) (x0 : Int) (x1 : Int) (Q : Int → Prop) (hv : wp_X0_readOn x0 x1 Q) : MI l D t yX0_readOn wsX0_readOn rm_X0_readOn [.int (iI x0), .int (iI x1)] [] (W1_X0_readOn t ) (po_X0_readOn Q) 0 0 := by
  refine M_ofi (cc := cX0_readOn) (nL := 4) (by decide) rfl (Nat.le_of_ble_eq_true rfl) ?_
  intro p e s m args below meth c A hc hr
  have C_17 : ∀ (x0 : Int) (x1 : Int) (s0 : Int), wp_X0_readOn_17 x0 x1 s0 Q → V p l e rm_X0_readOn s m args below meth c D A 4 0 0 (MQ below (QI D A (W1_X0_readOn t ) (po_X0_readOn Q)) args s 0 0 A) 17 [(0, .int (iI x0)), (1, .int (iI x1))] [.int (iI s0)] [] := by
    intro x0 x1 s0 hv
    unfold wp_X0_readOn_17 at hv
    refine V_istore_n hc dX0_readOn_17 [(2, .int (iI s0)), (0, .int (iI x0)), (1, .int (iI x1))] (by decide) rfl ?_
    refine V_iload_n hc dX0_readOn_18 1 rfl ?_
    refine V_sipush hc dX0_readOn_19 (by decide) ?_
    refine V_icmp_ne (tgt := 57) hc dX0_readOn_22 (by decide) ⟨hv.1, by decide, hv.2⟩ (fun hv => ?_) (fun hv => ?_)
    · refine V_iload_n hc dX0_readOn_57 1 rfl ?_
      refine V_sipush hc dX0_readOn_58 (by decide) ?_
      refine V_icmp_ne (tgt := 79) hc dX0_readOn_61 (by decide) ⟨hv.1, by decide, hv.2⟩ (fun hv => ?_) (fun hv => ?_)
      · refine V_iload_n hc dX0_readOn_79 2 rfl ?_
        refine V_bipush hc dX0_readOn_80 (by decide) ?_
        refine V_icmp_ne (tgt := 89) hc dX0_readOn_82 (by decide) ⟨hv.1, by decide, hv.2⟩ (fun hv => ?_) (fun hv => ?_)
        · refine V_iload_n hc dX0_readOn_89 0 rfl ?_
          refine V_if_eq (tgt := 104) hc dX0_readOn_90 (by decide) hv (fun hv => ?_) (fun hv => ?_)
          · refine V_sipush hc dX0_readOn_104 (by decide) ?_
            exact V_iret hc hr () hv rfl dX0_readOn_107
          · refine V_iload_n hc dX0_readOn_93 1 rfl ?_
            refine V_sipush hc dX0_readOn_94 (by decide) ?_
            refine V_icmp_eq (tgt := 104) hc dX0_readOn_97 (by decide) ⟨hv.1, by decide, hv.2⟩ (fun hv => ?_) (fun hv => ?_)
            · refine V_sipush hc dX0_readOn_104 (by decide) ?_
              exact V_iret hc hr () hv rfl dX0_readOn_107
            · refine V_iload_n hc dX0_readOn_100 1 rfl ?_
              refine V_if_ne (tgt := 108) hc dX0_readOn_101 (by decide) hv (fun hv => ?_) (fun hv => ?_)
              · refine V_bipush hc dX0_readOn_108 (by decide) ?_
                refine V_iload_n hc dX0_readOn_110 1 rfl ?_
                refine V_imul hc dX0_readOn_111 ?_
                refine V_iload_n hc dX0_readOn_112 2 rfl ?_
                refine V_iadd hc dX0_readOn_113 ?_
                refine V_bipush hc dX0_readOn_114 (by decide) ?_
                refine V_isub hc dX0_readOn_116 ?_
                refine V_istore_n hc dX0_readOn_117 [(3, .int (iI (((10 * x0) + x1) - 48))), (2, .int (iI s0)), (0, .int (iI x0)), (1, .int (iI x1))] (by decide) rfl ?_
                refine V_iload_n hc dX0_readOn_118 0 rfl ?_
                refine V_sipush hc dX0_readOn_119 (by decide) ?_
                refine V_icmp_ge (tgt := 129) hc dX0_readOn_122 (by decide) ⟨hv.1, by decide, hv.2⟩ (fun hv => ?_) (fun hv => ?_)
                · refine V_sipush hc dX0_readOn_129 (by decide) ?_
                  exact V_iret hc hr () hv rfl dX0_readOn_132
                · refine V_iload_n hc dX0_readOn_125 0 rfl ?_
                  refine V_goto (tgt := 132) hc dX0_readOn_126 (by decide) ?_
                  exact V_iret hc hr () hv rfl dX0_readOn_132
              · refine V_sipush hc dX0_readOn_104 (by decide) ?_
                exact V_iret hc hr () hv rfl dX0_readOn_107
        · refine V_sipush hc dX0_readOn_85 (by decide) ?_
          exact V_iret hc hr () hv rfl dX0_readOn_88
      · refine V_iload_n hc dX0_readOn_64 0 rfl ?_
        refine V_if_eq (tgt := 75) hc dX0_readOn_65 (by decide) hv (fun hv => ?_) (fun hv => ?_)
        · refine V_sipush hc dX0_readOn_75 (by decide) ?_
          exact V_iret hc hr () hv rfl dX0_readOn_78
        · refine V_iload_n hc dX0_readOn_68 2 rfl ?_
          refine V_bipush hc dX0_readOn_69 (by decide) ?_
          refine V_isub hc dX0_readOn_71 ?_
          refine V_goto (tgt := 78) hc dX0_readOn_72 (by decide) ?_
          exact V_iret hc hr () hv rfl dX0_readOn_78
    · refine V_iload_n hc dX0_readOn_25 2 rfl ?_
      refine V_bipush hc dX0_readOn_26 (by decide) ?_
      refine V_icmp_ne (tgt := 35) hc dX0_readOn_28 (by decide) ⟨hv.1, by decide, hv.2⟩ (fun hv => ?_) (fun hv => ?_)
      · refine V_iload_n hc dX0_readOn_35 2 rfl ?_
        refine V_bipush hc dX0_readOn_36 (by decide) ?_
        refine V_icmp_eq (tgt := 47) hc dX0_readOn_38 (by decide) ⟨hv.1, by decide, hv.2⟩ (fun hv => ?_) (fun hv => ?_)
        · refine V_sipush hc dX0_readOn_47 (by decide) ?_
          refine V_goto (tgt := 56) hc dX0_readOn_50 (by decide) ?_
          exact V_iret hc hr () hv rfl dX0_readOn_56
        · refine V_iload_n hc dX0_readOn_41 2 rfl ?_
          refine V_bipush hc dX0_readOn_42 (by decide) ?_
          refine V_icmp_ne (tgt := 53) hc dX0_readOn_44 (by decide) ⟨hv.1, by decide, hv.2⟩ (fun hv => ?_) (fun hv => ?_)
          · refine V_sipush hc dX0_readOn_53 (by decide) ?_
            exact V_iret hc hr () hv rfl dX0_readOn_56
          · refine V_sipush hc dX0_readOn_47 (by decide) ?_
            refine V_goto (tgt := 56) hc dX0_readOn_50 (by decide) ?_
            exact V_iret hc hr () hv rfl dX0_readOn_56
      · refine V_sipush hc dX0_readOn_31 (by decide) ?_
        exact V_iret hc hr () hv rfl dX0_readOn_34
  have C_16 : ∀ (x0 : Int) (x1 : Int), wp_X0_readOn_16 x0 x1 Q → V p l e rm_X0_readOn s m args below meth c D A 4 0 0 (MQ below (QI D A (W1_X0_readOn t ) (po_X0_readOn Q)) args s 0 0 A) 16 [(0, .int (iI x0)), (1, .int (iI x1))] [] [] := by
    intro x0 x1 hv
    unfold wp_X0_readOn_16 at hv
    refine V_iconst hc dX0_readOn_16 ?_
    exact C_17 x0 x1 0 hv
  refine V_lv [0, 1] [(0, .int (iI x0)), (1, .int (iI x1))] rfl ?_
  unfold wp_X0_readOn at hv
  refine V_iload_n hc dX0_readOn_0 1 rfl ?_
  refine V_bipush hc dX0_readOn_1 (by decide) ?_
  refine V_icmp_lt (tgt := 16) hc dX0_readOn_3 (by decide) ⟨hv.1, by decide, hv.2⟩ (fun hv => ?_) (fun hv => ?_)
  · exact C_16 x0 x1 hv
  · refine V_iload_n hc dX0_readOn_6 1 rfl ?_
    refine V_bipush hc dX0_readOn_7 (by decide) ?_
    refine V_icmp_gt (tgt := 16) hc dX0_readOn_9 (by decide) ⟨hv.1, by decide, hv.2⟩ (fun hv => ?_) (fun hv => ?_)
    · exact C_16 x0 x1 hv
    · refine V_iconst hc dX0_readOn_12 ?_
      refine V_goto (tgt := 17) hc dX0_readOn_13 (by decide) ?_
      exact C_17 x0 x1 1 hv
abbrev W1_X0_endsAct (t : Nat → ClassId) (u : Unit) : va_W := []
abbrev po_X0_endsAct (Q : Int → Prop) (r : Int) (u : Unit) : Prop := Q r
abbrev rm_X0_endsAct : Room := { frames := 0, cells := 0, slots := 0, locals := 0 }
def wp_X0_endsAct (x0 : Int) (Q : Int → Prop) : Prop := inR x0 ∧ (x0 < 500 → Q 1) ∧ (¬ (x0 < 500) → inR x0 ∧ (x0 ≠ 502 → Q 0) ∧ (¬ (x0 ≠ 502) → Q 1))
theorem ok_X0_endsAct : yX0_endsAct.cls ≠ "java/lang/invoke/MethodHandle" ∧ yX0_endsAct.cls ≠ "java/lang/invoke/VarHandle" ∧ (parseMethodDescriptor yX0_endsAct.desc).map (fun d => d.parameters.length) = some 1 := by decide +kernel
set_option maxHeartbeats 4000000 in
set_option maxRecDepth 100000 in
theorem met_X0_endsAct (l : Launch) (D : va_G) (t : Nat → ClassId) (x0 : Int) (Q : Int → Prop) (hv : wp_X0_endsAct x0 Q) : MI l D t yX0_endsAct wsX0_endsAct rm_X0_endsAct [.int (iI x0)] [] (W1_X0_endsAct t ) (po_X0_endsAct Q) 0 0 := by
  refine M_ofz (cc := cX0_endsAct) (nL := 1) (by decide) rfl (Nat.le_of_ble_eq_true rfl) ?_
  intro p e s m args below meth c A hc hr
  refine V_lv [0] [(0, .int (iI x0))] rfl ?_
  unfold wp_X0_endsAct at hv
  refine V_iload_n hc dX0_endsAct_0 0 rfl ?_
  refine V_sipush hc dX0_endsAct_1 (by decide) ?_
  refine V_icmp_lt (tgt := 14) hc dX0_endsAct_4 (by decide) ⟨hv.1, by decide, hv.2⟩ (fun hv => ?_) (fun hv => ?_)
  · refine V_iconst hc dX0_endsAct_14 ?_
    refine V_goto (tgt := 19) hc dX0_endsAct_15 (by decide) ?_
    exact V_zret hc hr () ⟨by decide, hv⟩ rfl dX0_endsAct_19
  · refine V_iload_n hc dX0_endsAct_7 0 rfl ?_
    refine V_sipush hc dX0_endsAct_8 (by decide) ?_
    refine V_icmp_ne (tgt := 18) hc dX0_endsAct_11 (by decide) ⟨hv.1, by decide, hv.2⟩ (fun hv => ?_) (fun hv => ?_)
    · refine V_iconst hc dX0_endsAct_18 ?_
      exact V_zret hc hr () ⟨by decide, hv⟩ rfl dX0_endsAct_19
    · refine V_iconst hc dX0_endsAct_14 ?_
      refine V_goto (tgt := 19) hc dX0_endsAct_15 (by decide) ?_
      exact V_zret hc hr () ⟨by decide, hv⟩ rfl dX0_endsAct_19
abbrev W1_X0_errorIndex (t : Nat → ClassId) (hX : Nat) (chXA : Nat) (leX : Int) (chX : Nat → Int) (u : Unit) : va_W := [oB hX 0 [.ref chXA, .int (iI leX)], aC t chXA 60 chX]
abbrev po_X0_errorIndex (Q : Int → Prop) (r : Int) (u : Unit) : Prop := Q r
abbrev rm_X0_errorIndex : Room := { frames := 1, cells := 0, slots := 0, locals := 23 }
def wp_X0_errorIndex_6 (leX : Int) (chX : Nat → Int) (Q : Int → Prop) (K_6 : Int → Int → Prop) (x1 : Int) (x2 : Int) : Prop := inR x2 ∧ inR leX ∧ (x2 ≥ leX → Q leX) ∧ (¬ (x2 ≥ leX) → (0 ≤ x2 ∧ x2 < 60) ∧ wp_X0_readOn x1 (chX x2.toNat) (fun r_1 => inR r_1 ∧ (r_1 ≠ 503 → K_6 r_1 (x2 + 1)) ∧ (¬ (r_1 ≠ 503) → Q x2)))
def wp_X0_errorIndex (leX : Int) (chX : Nat → Int) (Q : Int → Prop) : Prop := (∃ n, lq2 (wp_X0_errorIndex_6 leX chX Q) n 500 0)
theorem m_X0_errorIndex_15 : Cond.fieldLink RX0 15 "BackgroundRebuild$ActText" "length" "I" ∈ wsX0_errorIndex := by decide +kernel
theorem m_X0_errorIndex_9 : Cond.fieldLink RX0 9 "BackgroundRebuild$ActText" "characters" "[C" ∈ wsX0_errorIndex := by decide +kernel
theorem i_X0_errorIndex_0 : ∀ w ∈ u_ws RX0 TX0 2, w ∈ wsX0_errorIndex := by decide +kernel
theorem ok_X0_errorIndex : yX0_errorIndex.cls = RX0 ∧ yX0_errorIndex.cls ≠ "java/lang/invoke/MethodHandle" ∧ yX0_errorIndex.cls ≠ "java/lang/invoke/VarHandle" ∧ (parseMethodDescriptor yX0_errorIndex.desc).map (fun d => d.parameters.length) = some 0 := by decide +kernel
set_option maxHeartbeats 4000000 in
set_option maxRecDepth 100000 in
theorem met_X0_errorIndex (l : Launch) (D : va_G) (t : Nat → ClassId) (hX : Nat) (chXA : Nat) (leX : Int) (chX : Nat → Int) (Q : Int → Prop) (hv : wp_X0_errorIndex leX chX Q) : MI l D t yX0_errorIndex wsX0_errorIndex rm_X0_errorIndex [.ref hX] [oB hX 0 [.ref chXA, .int (iI leX)], aC t chXA 60 chX] (W1_X0_errorIndex t hX chXA leX chX) (po_X0_errorIndex Q) 0 0 := by
  refine M_ofi (cc := cX0_errorIndex) (nL := 3) (by decide) rfl (Nat.le_of_ble_eq_true rfl) ?_
  intro p e s m args below meth c A hc hr
  have L_6 : ∀ (leX : Int) (chX : Nat → Int) (n9 : Nat) (x1 : Int) (x2 : Int), lq2 (wp_X0_errorIndex_6 leX chX Q) n9 x1 x2 → V p l e rm_X0_errorIndex s m args below meth c D A 3 0 0 (MQ below (QI D A (W1_X0_errorIndex t hX chXA leX chX) (po_X0_errorIndex Q)) args s 0 0 A) 6 [(0, .ref hX), (1, .int (iI x1)), (2, .int (iI x2))] [] [oB hX 0 [.ref chXA, .int (iI leX)], aC t chXA 60 chX] := by
    intro leX chX n9
    induction n9 with
    | zero =>
      intro x1 x2 hv
      exact hv.elim
    | succ n9 ih =>
      intro x1 x2 hv
      have hv : wp_X0_errorIndex_6 leX chX Q (lq2 (wp_X0_errorIndex_6 leX chX Q) n9) x1 x2 := hv
      generalize lq2 (wp_X0_errorIndex_6 leX chX Q) n9 = K_6 at hv ih
      have hK_6 := ih
      unfold wp_X0_errorIndex_6 at hv
      refine V_iload_n hc dX0_errorIndex_6 2 rfl ?_
      refine V_aload_n hc dX0_errorIndex_7 0 rfl ?_
      refine V_get (C := RX0) (T := TX0) (N := 2) hc i_X0_errorIndex_0 0 rfl rfl 1 (by decide) m_X0_errorIndex_15 rfl dX0_errorIndex_8 ?_
      refine V_icmp_ge (tgt := 40) hc dX0_errorIndex_11 (by decide) hv (fun hv => ?_) (fun hv => ?_)
      · refine V_aload_n hc dX0_errorIndex_40 0 rfl ?_
        refine V_get (C := RX0) (T := TX0) (N := 2) hc i_X0_errorIndex_0 0 rfl rfl 1 (by decide) m_X0_errorIndex_15 rfl dX0_errorIndex_41 ?_
        exact V_iret hc hr () hv rfl dX0_errorIndex_44
      · refine V_iload_n hc dX0_errorIndex_14 1 rfl ?_
        refine V_aload_n hc dX0_errorIndex_15 0 rfl ?_
        refine V_get (C := RX0) (T := TX0) (N := 2) hc i_X0_errorIndex_0 0 rfl rfl 0 (by decide) m_X0_errorIndex_9 rfl dX0_errorIndex_16 ?_
        refine V_iload_n hc dX0_errorIndex_19 2 rfl ?_
        refine V_cald hc 1 rfl (by decide) hv dX0_errorIndex_20 (fun hv => ?_)
        refine V_callSI (As := [.int (iI x1), .int (iI (chX x2.toNat))]) hc (wc := []) (wr := [oB hX 0 [.ref chXA, .int (iI leX)], aC t chXA 60 chX]) (pmI (ws := [oB hX 0 [.ref chXA, .int (iI leX)], aC t chXA 60 chX]) (ws1 := [] ++ [oB hX 0 [.ref chXA, .int (iI leX)], aC t chXA 60 chX]) [0, 1] 2 rfl (by decide +kernel) rfl) (met_X0_readOn l D t x1 (chX x2.toNat) _ hv) rfl gX0_errorIndex_X0_readOn rfl ⟨rfl, rfl⟩ ok_X0_readOn (by decide) (Nat.le_of_ble_eq_true rfl) dX0_errorIndex_21 (by decide) (fun r_1 _ hv => ?_)
        try dsimp only at hv
        refine V_perm (ws1 := [oB hX 0 [.ref chXA, .int (iI leX)], aC t chXA 60 chX]) (pmI (ws := [] ++ [oB hX 0 [.ref chXA, .int (iI leX)], aC t chXA 60 chX]) (ws1 := [oB hX 0 [.ref chXA, .int (iI leX)], aC t chXA 60 chX]) [0, 1] 2 rfl (by decide +kernel) rfl) ?_
        refine V_istore_n hc dX0_errorIndex_24 [(1, .int (iI r_1)), (0, .ref hX), (2, .int (iI x2))] (by decide) rfl ?_
        refine V_iload_n hc dX0_errorIndex_25 0 rfl ?_
        refine V_sipush hc dX0_errorIndex_26 (by decide) ?_
        refine V_icmp_ne (tgt := 34) hc dX0_errorIndex_29 (by decide) ⟨hv.1, by decide, hv.2⟩ (fun hv => ?_) (fun hv => ?_)
        · refine V_iinc hc dX0_errorIndex_34 2 rfl [(2, .int (iI (x2 + 1))), (1, .int (iI r_1)), (0, .ref hX)] (by decide) rfl ?_
          refine V_goto (tgt := 6) hc dX0_errorIndex_37 (by decide) ?_
          refine V_lv [2, 1, 0] [(0, .ref hX), (1, .int (iI r_1)), (2, .int (iI (x2 + 1)))] rfl ?_
          exact hK_6 r_1 (x2 + 1) hv
        · refine V_iload_n hc dX0_errorIndex_32 2 rfl ?_
          exact V_iret hc hr () hv rfl dX0_errorIndex_33
  refine V_lv [0] [(0, .ref hX)] rfl ?_
  unfold wp_X0_errorIndex at hv
  refine V_sipush hc dX0_errorIndex_0 (by decide) ?_
  refine V_istore_n hc dX0_errorIndex_3 [(1, .int (iI 500)), (0, .ref hX)] (by decide) rfl ?_
  refine V_iconst hc dX0_errorIndex_4 ?_
  refine V_istore_n hc dX0_errorIndex_5 [(2, .int (iI 0)), (1, .int (iI 500)), (0, .ref hX)] (by decide) rfl ?_
  refine V_lv [2, 1, 0] [(0, .ref hX), (1, .int (iI 500)), (2, .int (iI 0))] rfl ?_
  obtain ⟨n9, hv⟩ := hv
  exact L_6 leX chX n9 500 0 hv
abbrev W1_X0_actOf (t : Nat → ClassId) (u : Unit) : va_W := []
abbrev po_X0_actOf (Q : Int → Prop) (r : Int) (u : Unit) : Prop := Q r
abbrev rm_X0_actOf : Room := { frames := 0, cells := 0, slots := 0, locals := 0 }
def wp_X0_actOf (x0 : Int) (x1 : Int) (Q : Int → Prop) : Prop := inR x0 ∧ (x0 ≠ 502 → inR x1 ∧ (x1 = 0 → Q x0) ∧ (¬ (x1 = 0) → Q (x0 + 500))) ∧ (¬ (x0 ≠ 502) → Q (-1))
theorem ok_X0_actOf : yX0_actOf.cls ≠ "java/lang/invoke/MethodHandle" ∧ yX0_actOf.cls ≠ "java/lang/invoke/VarHandle" ∧ (parseMethodDescriptor yX0_actOf.desc).map (fun d => d.parameters.length) = some 2 := by decide +kernel
set_option maxHeartbeats 4000000 in
set_option maxRecDepth 100000 in
theorem met_X0_actOf (l : Launch) (D : va_G) (t : Nat → ClassId) (x0 : Int) (x1 : Int) (Q : Int → Prop) (hv : wp_X0_actOf x0 x1 Q) : MI l D t yX0_actOf wsX0_actOf rm_X0_actOf [.int (iI x0), .int (iI x1)] [] (W1_X0_actOf t ) (po_X0_actOf Q) 0 0 := by
  refine M_ofi (cc := cX0_actOf) (nL := 2) (by decide) rfl (Nat.le_of_ble_eq_true rfl) ?_
  intro p e s m args below meth c A hc hr
  refine V_lv [0, 1] [(0, .int (iI x0)), (1, .int (iI x1))] rfl ?_
  unfold wp_X0_actOf at hv
  refine V_iload_n hc dX0_actOf_0 0 rfl ?_
  refine V_sipush hc dX0_actOf_1 (by decide) ?_
  refine V_icmp_ne (tgt := 9) hc dX0_actOf_4 (by decide) ⟨hv.1, by decide, hv.2⟩ (fun hv => ?_) (fun hv => ?_)
  · refine V_iload_n hc dX0_actOf_9 1 rfl ?_
    refine V_if_eq (tgt := 21) hc dX0_actOf_10 (by decide) hv (fun hv => ?_) (fun hv => ?_)
    · refine V_iload_n hc dX0_actOf_21 0 rfl ?_
      exact V_iret hc hr () hv rfl dX0_actOf_22
    · refine V_iload_n hc dX0_actOf_13 0 rfl ?_
      refine V_sipush hc dX0_actOf_14 (by decide) ?_
      refine V_iadd hc dX0_actOf_17 ?_
      refine V_goto (tgt := 22) hc dX0_actOf_18 (by decide) ?_
      exact V_iret hc hr () hv rfl dX0_actOf_22
  · refine V_iconst hc dX0_actOf_7 ?_
    exact V_iret hc hr () hv rfl dX0_actOf_8
abbrev W1_X0_readInto (t : Nat → ClassId) (hX : Nat) (chXA : Nat) (hP : Nat) (leX : Int) (chX : Nat → Int) (u : (Nat → Int)) : va_W := [oB hX 0 [.ref chXA, .int (iI leX)], aC t chXA 60 chX, aI t hP 60 u]
abbrev po_X0_readInto (Q : Int → (Nat → Int) → Prop) (r : Int) (u : (Nat → Int)) : Prop := Q r u
abbrev rm_X0_readInto : Room := { frames := 1, cells := 0, slots := 0, locals := 23 }
def wp_X0_readInto_84 (leX : Int) (chX : Nat → Int) (aP : Nat → Int) (x2 : Int) (x3 : Int) (x4 : Int) (x5 : Int) (Q : Int → (Nat → Int) → Prop) (K_12 : (Nat → Int) → Int → Int → Int → Int → Prop) : Prop := (0 ≤ x5 ∧ x5 < 60) ∧ wp_X0_readOn x2 (chX x5.toNat) (fun r_5 => inR r_5 ∧ (r_5 ≠ 503 → K_12 aP r_5 x3 x4 (x5 + 1)) ∧ (¬ (r_5 ≠ 503) → Q (-1) aP))
def wp_X0_readInto_82 (leX : Int) (chX : Nat → Int) (aP : Nat → Int) (x2 : Int) (x3 : Int) (x5 : Int) (s0 : Int) (Q : Int → (Nat → Int) → Prop) (K_12 : (Nat → Int) → Int → Int → Int → Int → Prop) : Prop := wp_X0_readInto_84 leX chX aP x2 x3 s0 x5 Q K_12
def wp_X0_readInto_58 (leX : Int) (chX : Nat → Int) (aP : Nat → Int) (x2 : Int) (x3 : Int) (x4 : Int) (x5 : Int) (Q : Int → (Nat → Int) → Prop) (K_12 : (Nat → Int) → Int → Int → Int → Int → Prop) : Prop := inR x2 ∧ (x2 ≠ 500 → wp_X0_readInto_84 leX chX aP x2 x3 x4 x5 Q K_12) ∧ (¬ (x2 ≠ 500) → (0 ≤ x5 ∧ x5 < 60) ∧ inR (chX x5.toNat) ∧ (chX x5.toNat ≠ 45 → wp_X0_readInto_82 leX chX aP x2 x3 x5 0 Q K_12) ∧ (¬ (chX x5.toNat ≠ 45) → wp_X0_readInto_82 leX chX aP x2 x3 x5 1 Q K_12))
def wp_X0_readInto_12 (leX : Int) (chX : Nat → Int) (Q : Int → (Nat → Int) → Prop) (K_12 : (Nat → Int) → Int → Int → Int → Int → Prop) (aP : Nat → Int) (x2 : Int) (x3 : Int) (x4 : Int) (x5 : Int) : Prop := inR x5 ∧ inR leX ∧ (x5 ≥ leX → wp_X0_endsAct x2 (fun r_1 => inR r_1 ∧ (r_1 = 0 → Q (-1) aP) ∧ (¬ (r_1 = 0) → inR x3 ∧ (x3 < 60 → wp_X0_actOf x2 x4 (fun r_2 => (0 ≤ x3 ∧ x3 < 60) ∧ Q (x3 + 1) (uI aP (x3.toNat) r_2))) ∧ (¬ (x3 < 60) → Q (-1) aP)))) ∧ (¬ (x5 ≥ leX) → (0 ≤ x5 ∧ x5 < 60) ∧ inR (chX x5.toNat) ∧ (chX x5.toNat ≠ 59 → wp_X0_readInto_58 leX chX aP x2 x3 x4 x5 Q K_12) ∧ (¬ (chX x5.toNat ≠ 59) → wp_X0_endsAct x2 (fun r_3 => inR r_3 ∧ (r_3 = 0 → wp_X0_readInto_58 leX chX aP x2 x3 x4 x5 Q K_12) ∧ (¬ (r_3 = 0) → inR x3 ∧ (x3 ≥ 60 → wp_X0_readInto_58 leX chX aP x2 x3 x4 x5 Q K_12) ∧ (¬ (x3 ≥ 60) → wp_X0_actOf x2 x4 (fun r_4 => (0 ≤ x3 ∧ x3 < 60) ∧ wp_X0_readInto_58 leX chX (uI aP (x3.toNat) r_4) x2 (x3 + 1) x4 x5 Q K_12))))))
def wp_X0_readInto (leX : Int) (chX : Nat → Int) (aP : Nat → Int) (Q : Int → (Nat → Int) → Prop) : Prop := (∃ n, lq5 (wp_X0_readInto_12 leX chX Q) n aP 500 0 0 0)
theorem m_X0_readInto_15 : Cond.fieldLink RX0 15 "BackgroundRebuild$ActText" "length" "I" ∈ wsX0_readInto := by decide +kernel
theorem m_X0_readInto_9 : Cond.fieldLink RX0 9 "BackgroundRebuild$ActText" "characters" "[C" ∈ wsX0_readInto := by decide +kernel
theorem i_X0_readInto_0 : ∀ w ∈ u_ws RX0 TX0 2, w ∈ wsX0_readInto := by decide +kernel
theorem ok_X0_readInto : yX0_readInto.cls = RX0 ∧ yX0_readInto.cls ≠ "java/lang/invoke/MethodHandle" ∧ yX0_readInto.cls ≠ "java/lang/invoke/VarHandle" ∧ (parseMethodDescriptor yX0_readInto.desc).map (fun d => d.parameters.length) = some 1 := by decide +kernel
set_option maxHeartbeats 4000000 in
set_option maxRecDepth 100000 in
theorem met_X0_readInto (l : Launch) (D : va_G) (t : Nat → ClassId) (hX : Nat) (chXA : Nat) (hP : Nat) (leX : Int) (chX : Nat → Int) (aP : Nat → Int) (Q : Int → (Nat → Int) → Prop) (hv : wp_X0_readInto leX chX aP Q) : MI l D t yX0_readInto wsX0_readInto rm_X0_readInto [.ref hX, .ref hP] [oB hX 0 [.ref chXA, .int (iI leX)], aC t chXA 60 chX, aI t hP 60 aP] (W1_X0_readInto t hX chXA hP leX chX) (po_X0_readInto Q) 0 0 := by
  refine M_ofi (cc := cX0_readInto) (nL := 6) (by decide) rfl (Nat.le_of_ble_eq_true rfl) ?_
  intro p e s m args below meth c A hc hr
  have C_84 : ∀ (leX : Int) (chX : Nat → Int) (aP : Nat → Int) (x2 : Int) (x3 : Int) (x4 : Int) (x5 : Int) (K_12 : (Nat → Int) → Int → Int → Int → Int → Prop) (hK_12 : ∀ (aP : Nat → Int) (x2 : Int) (x3 : Int) (x4 : Int) (x5 : Int), K_12 aP x2 x3 x4 x5 → V p l e rm_X0_readInto s m args below meth c D A 6 0 0 (MQ below (QI D A (W1_X0_readInto t hX chXA hP leX chX) (po_X0_readInto Q)) args s 0 0 A) 12 [(0, .ref hX), (1, .ref hP), (2, .int (iI x2)), (3, .int (iI x3)), (4, .int (iI x4)), (5, .int (iI x5))] [] [oB hX 0 [.ref chXA, .int (iI leX)], aC t chXA 60 chX, aI t hP 60 aP]), wp_X0_readInto_84 leX chX aP x2 x3 x4 x5 Q K_12 → V p l e rm_X0_readInto s m args below meth c D A 6 0 0 (MQ below (QI D A (W1_X0_readInto t hX chXA hP leX chX) (po_X0_readInto Q)) args s 0 0 A) 84 [(0, .ref hX), (1, .ref hP), (2, .int (iI x2)), (3, .int (iI x3)), (4, .int (iI x4)), (5, .int (iI x5))] [] [oB hX 0 [.ref chXA, .int (iI leX)], aC t chXA 60 chX, aI t hP 60 aP] := by
    intro leX chX aP x2 x3 x4 x5 K_12 hK_12 hv
    unfold wp_X0_readInto_84 at hv
    refine V_iload_n hc dX0_readInto_84 2 rfl ?_
    refine V_aload_n hc dX0_readInto_85 0 rfl ?_
    refine V_get (C := RX0) (T := TX0) (N := 2) hc i_X0_readInto_0 0 rfl rfl 0 (by decide) m_X0_readInto_9 rfl dX0_readInto_86 ?_
    refine V_iload hc dX0_readInto_89 5 rfl ?_
    refine V_cald hc 1 rfl (by decide) hv dX0_readInto_91 (fun hv => ?_)
    refine V_callSI (As := [.int (iI x2), .int (iI (chX x5.toNat))]) hc (wc := []) (wr := [oB hX 0 [.ref chXA, .int (iI leX)], aC t chXA 60 chX, aI t hP 60 aP]) (pmI (ws := [oB hX 0 [.ref chXA, .int (iI leX)], aC t chXA 60 chX, aI t hP 60 aP]) (ws1 := [] ++ [oB hX 0 [.ref chXA, .int (iI leX)], aC t chXA 60 chX, aI t hP 60 aP]) [0, 1, 2] 3 rfl (by decide +kernel) rfl) (met_X0_readOn l D t x2 (chX x5.toNat) _ hv) rfl gX0_readInto_X0_readOn rfl ⟨rfl, rfl⟩ ok_X0_readOn (by decide) (Nat.le_of_ble_eq_true rfl) dX0_readInto_92 (by decide) (fun r_5 _ hv => ?_)
    try dsimp only at hv
    refine V_perm (ws1 := [oB hX 0 [.ref chXA, .int (iI leX)], aC t chXA 60 chX, aI t hP 60 aP]) (pmI (ws := [] ++ [oB hX 0 [.ref chXA, .int (iI leX)], aC t chXA 60 chX, aI t hP 60 aP]) (ws1 := [oB hX 0 [.ref chXA, .int (iI leX)], aC t chXA 60 chX, aI t hP 60 aP]) [0, 1, 2] 3 rfl (by decide +kernel) rfl) ?_
    refine V_istore_n hc dX0_readInto_95 [(2, .int (iI r_5)), (0, .ref hX), (1, .ref hP), (3, .int (iI x3)), (4, .int (iI x4)), (5, .int (iI x5))] (by decide) rfl ?_
    refine V_iload_n hc dX0_readInto_96 0 rfl ?_
    refine V_sipush hc dX0_readInto_97 (by decide) ?_
    refine V_icmp_ne (tgt := 105) hc dX0_readInto_100 (by decide) ⟨hv.1, by decide, hv.2⟩ (fun hv => ?_) (fun hv => ?_)
    · refine V_iinc hc dX0_readInto_105 5 rfl [(5, .int (iI (x5 + 1))), (2, .int (iI r_5)), (0, .ref hX), (1, .ref hP), (3, .int (iI x3)), (4, .int (iI x4))] (by decide) rfl ?_
      refine V_goto (tgt := 12) hc dX0_readInto_108 (by decide) ?_
      refine V_lv [2, 3, 1, 4, 5, 0] [(0, .ref hX), (1, .ref hP), (2, .int (iI r_5)), (3, .int (iI x3)), (4, .int (iI x4)), (5, .int (iI (x5 + 1)))] rfl ?_
      exact hK_12 aP r_5 x3 x4 (x5 + 1) hv
    · refine V_iconst hc dX0_readInto_103 ?_
      exact V_iret hc hr aP hv rfl dX0_readInto_104
  have C_82 : ∀ (leX : Int) (chX : Nat → Int) (aP : Nat → Int) (x2 : Int) (x3 : Int) (x5 : Int) (s0 : Int) (K_12 : (Nat → Int) → Int → Int → Int → Int → Prop) (hK_12 : ∀ (aP : Nat → Int) (x2 : Int) (x3 : Int) (x4 : Int) (x5 : Int), K_12 aP x2 x3 x4 x5 → V p l e rm_X0_readInto s m args below meth c D A 6 0 0 (MQ below (QI D A (W1_X0_readInto t hX chXA hP leX chX) (po_X0_readInto Q)) args s 0 0 A) 12 [(0, .ref hX), (1, .ref hP), (2, .int (iI x2)), (3, .int (iI x3)), (4, .int (iI x4)), (5, .int (iI x5))] [] [oB hX 0 [.ref chXA, .int (iI leX)], aC t chXA 60 chX, aI t hP 60 aP]), wp_X0_readInto_82 leX chX aP x2 x3 x5 s0 Q K_12 → V p l e rm_X0_readInto s m args below meth c D A 6 0 0 (MQ below (QI D A (W1_X0_readInto t hX chXA hP leX chX) (po_X0_readInto Q)) args s 0 0 A) 82 [(0, .ref hX), (1, .ref hP), (2, .int (iI x2)), (3, .int (iI x3)), (5, .int (iI x5))] [.int (iI s0)] [oB hX 0 [.ref chXA, .int (iI leX)], aC t chXA 60 chX, aI t hP 60 aP] := by
    intro leX chX aP x2 x3 x5 s0 K_12 hK_12 hv
    unfold wp_X0_readInto_82 at hv
    refine V_istore hc dX0_readInto_82 [(4, .int (iI s0)), (0, .ref hX), (1, .ref hP), (2, .int (iI x2)), (3, .int (iI x3)), (5, .int (iI x5))] (by decide) rfl ?_
    refine V_lv [1, 2, 3, 4, 0, 5] [(0, .ref hX), (1, .ref hP), (2, .int (iI x2)), (3, .int (iI x3)), (4, .int (iI s0)), (5, .int (iI x5))] rfl ?_
    exact C_84 leX chX aP x2 x3 s0 x5 K_12 hK_12 hv
  have C_58 : ∀ (leX : Int) (chX : Nat → Int) (aP : Nat → Int) (x2 : Int) (x3 : Int) (x4 : Int) (x5 : Int) (K_12 : (Nat → Int) → Int → Int → Int → Int → Prop) (hK_12 : ∀ (aP : Nat → Int) (x2 : Int) (x3 : Int) (x4 : Int) (x5 : Int), K_12 aP x2 x3 x4 x5 → V p l e rm_X0_readInto s m args below meth c D A 6 0 0 (MQ below (QI D A (W1_X0_readInto t hX chXA hP leX chX) (po_X0_readInto Q)) args s 0 0 A) 12 [(0, .ref hX), (1, .ref hP), (2, .int (iI x2)), (3, .int (iI x3)), (4, .int (iI x4)), (5, .int (iI x5))] [] [oB hX 0 [.ref chXA, .int (iI leX)], aC t chXA 60 chX, aI t hP 60 aP]), wp_X0_readInto_58 leX chX aP x2 x3 x4 x5 Q K_12 → V p l e rm_X0_readInto s m args below meth c D A 6 0 0 (MQ below (QI D A (W1_X0_readInto t hX chXA hP leX chX) (po_X0_readInto Q)) args s 0 0 A) 58 [(0, .ref hX), (1, .ref hP), (2, .int (iI x2)), (3, .int (iI x3)), (4, .int (iI x4)), (5, .int (iI x5))] [] [oB hX 0 [.ref chXA, .int (iI leX)], aC t chXA 60 chX, aI t hP 60 aP] := by
    intro leX chX aP x2 x3 x4 x5 K_12 hK_12 hv
    unfold wp_X0_readInto_58 at hv
    refine V_iload_n hc dX0_readInto_58 2 rfl ?_
    refine V_sipush hc dX0_readInto_59 (by decide) ?_
    refine V_icmp_ne (tgt := 84) hc dX0_readInto_62 (by decide) ⟨hv.1, by decide, hv.2⟩ (fun hv => ?_) (fun hv => ?_)
    · exact C_84 leX chX aP x2 x3 x4 x5 K_12 hK_12 hv
    · refine V_aload_n hc dX0_readInto_65 0 rfl ?_
      refine V_get (C := RX0) (T := TX0) (N := 2) hc i_X0_readInto_0 0 rfl rfl 0 (by decide) m_X0_readInto_9 rfl dX0_readInto_66 ?_
      refine V_iload hc dX0_readInto_69 5 rfl ?_
      refine V_cald hc 1 rfl (by decide) hv dX0_readInto_71 (fun hv => ?_)
      refine V_bipush hc dX0_readInto_72 (by decide) ?_
      refine V_icmp_ne (tgt := 81) hc dX0_readInto_74 (by decide) ⟨hv.1, by decide, hv.2⟩ (fun hv => ?_) (fun hv => ?_)
      · refine V_iconst hc dX0_readInto_81 ?_
        refine V_lv [0, 1, 2, 3, 5] [(0, .ref hX), (1, .ref hP), (2, .int (iI x2)), (3, .int (iI x3)), (5, .int (iI x5))] rfl ?_
        exact C_82 leX chX aP x2 x3 x5 0 K_12 hK_12 hv
      · refine V_iconst hc dX0_readInto_77 ?_
        refine V_goto (tgt := 82) hc dX0_readInto_78 (by decide) ?_
        refine V_lv [0, 1, 2, 3, 5] [(0, .ref hX), (1, .ref hP), (2, .int (iI x2)), (3, .int (iI x3)), (5, .int (iI x5))] rfl ?_
        exact C_82 leX chX aP x2 x3 x5 1 K_12 hK_12 hv
  have L_12 : ∀ (leX : Int) (chX : Nat → Int) (n9 : Nat) (aP : Nat → Int) (x2 : Int) (x3 : Int) (x4 : Int) (x5 : Int), lq5 (wp_X0_readInto_12 leX chX Q) n9 aP x2 x3 x4 x5 → V p l e rm_X0_readInto s m args below meth c D A 6 0 0 (MQ below (QI D A (W1_X0_readInto t hX chXA hP leX chX) (po_X0_readInto Q)) args s 0 0 A) 12 [(0, .ref hX), (1, .ref hP), (2, .int (iI x2)), (3, .int (iI x3)), (4, .int (iI x4)), (5, .int (iI x5))] [] [oB hX 0 [.ref chXA, .int (iI leX)], aC t chXA 60 chX, aI t hP 60 aP] := by
    intro leX chX n9
    induction n9 with
    | zero =>
      intro aP x2 x3 x4 x5 hv
      exact hv.elim
    | succ n9 ih =>
      intro aP x2 x3 x4 x5 hv
      have hv : wp_X0_readInto_12 leX chX Q (lq5 (wp_X0_readInto_12 leX chX Q) n9) aP x2 x3 x4 x5 := hv
      generalize lq5 (wp_X0_readInto_12 leX chX Q) n9 = K_12 at hv ih
      have hK_12 := ih
      unfold wp_X0_readInto_12 at hv
      refine V_iload hc dX0_readInto_12 5 rfl ?_
      refine V_aload_n hc dX0_readInto_14 0 rfl ?_
      refine V_get (C := RX0) (T := TX0) (N := 2) hc i_X0_readInto_0 0 rfl rfl 1 (by decide) m_X0_readInto_15 rfl dX0_readInto_15 ?_
      refine V_icmp_ge (tgt := 111) hc dX0_readInto_18 (by decide) hv (fun hv => ?_) (fun hv => ?_)
      · refine V_iload_n hc dX0_readInto_111 2 rfl ?_
        refine V_callSI (As := [.int (iI x2)]) hc (wc := []) (wr := [oB hX 0 [.ref chXA, .int (iI leX)], aC t chXA 60 chX, aI t hP 60 aP]) (pmI (ws := [oB hX 0 [.ref chXA, .int (iI leX)], aC t chXA 60 chX, aI t hP 60 aP]) (ws1 := [] ++ [oB hX 0 [.ref chXA, .int (iI leX)], aC t chXA 60 chX, aI t hP 60 aP]) [0, 1, 2] 3 rfl (by decide +kernel) rfl) (met_X0_endsAct l D t x2 _ hv) rfl gX0_readInto_X0_endsAct rfl ⟨rfl, rfl⟩ ok_X0_endsAct (by decide) (Nat.le_of_ble_eq_true rfl) dX0_readInto_112 (by decide) (fun r_1 _ hv => ?_)
        try dsimp only at hv
        refine V_perm (ws1 := [oB hX 0 [.ref chXA, .int (iI leX)], aC t chXA 60 chX, aI t hP 60 aP]) (pmI (ws := [] ++ [oB hX 0 [.ref chXA, .int (iI leX)], aC t chXA 60 chX, aI t hP 60 aP]) (ws1 := [oB hX 0 [.ref chXA, .int (iI leX)], aC t chXA 60 chX, aI t hP 60 aP]) [0, 1, 2] 3 rfl (by decide +kernel) rfl) ?_
        refine V_if_eq (tgt := 124) hc dX0_readInto_115 (by decide) hv (fun hv => ?_) (fun hv => ?_)
        · refine V_iconst hc dX0_readInto_124 ?_
          exact V_iret hc hr aP hv rfl dX0_readInto_125
        · refine V_iload_n hc dX0_readInto_118 3 rfl ?_
          refine V_aload_n hc dX0_readInto_119 1 rfl ?_
          refine V_alen hc 2 (ti := 0) (v := 60) rfl rfl (by decide) dX0_readInto_120 ?_
          refine V_icmp_lt (tgt := 126) hc dX0_readInto_121 (by decide) ⟨hv.1, by decide, hv.2⟩ (fun hv => ?_) (fun hv => ?_)
          · refine V_aload_n hc dX0_readInto_126 1 rfl ?_
            refine V_iload_n hc dX0_readInto_127 3 rfl ?_
            refine V_iload_n hc dX0_readInto_128 2 rfl ?_
            refine V_iload hc dX0_readInto_129 4 rfl ?_
            refine V_callSI (As := [.int (iI x2), .int (iI x4)]) hc (wc := []) (wr := [oB hX 0 [.ref chXA, .int (iI leX)], aC t chXA 60 chX, aI t hP 60 aP]) (pmI (ws := [oB hX 0 [.ref chXA, .int (iI leX)], aC t chXA 60 chX, aI t hP 60 aP]) (ws1 := [] ++ [oB hX 0 [.ref chXA, .int (iI leX)], aC t chXA 60 chX, aI t hP 60 aP]) [0, 1, 2] 3 rfl (by decide +kernel) rfl) (met_X0_actOf l D t x2 x4 _ hv) rfl gX0_readInto_X0_actOf rfl ⟨rfl, rfl⟩ ok_X0_actOf (by decide) (Nat.le_of_ble_eq_true rfl) dX0_readInto_131 (by decide) (fun r_2 _ hv => ?_)
            try dsimp only at hv
            refine V_perm (ws1 := [oB hX 0 [.ref chXA, .int (iI leX)], aC t chXA 60 chX, aI t hP 60 aP]) (pmI (ws := [] ++ [oB hX 0 [.ref chXA, .int (iI leX)], aC t chXA 60 chX, aI t hP 60 aP]) (ws1 := [oB hX 0 [.ref chXA, .int (iI leX)], aC t chXA 60 chX, aI t hP 60 aP]) [0, 1, 2] 3 rfl (by decide +kernel) rfl) ?_
            refine V_iast hc 2 rfl (by decide) hv dX0_readInto_134 [oB hX 0 [.ref chXA, .int (iI leX)], aC t chXA 60 chX, aI t hP 60 (uI aP (x3.toNat) r_2)] rfl (fun hv => ?_)
            refine V_iload_n hc dX0_readInto_135 3 rfl ?_
            refine V_iconst hc dX0_readInto_136 ?_
            refine V_iadd hc dX0_readInto_137 ?_
            exact V_iret hc hr (uI aP (x3.toNat) r_2) hv rfl dX0_readInto_138
          · refine V_iconst hc dX0_readInto_124 ?_
            exact V_iret hc hr aP hv rfl dX0_readInto_125
      · refine V_aload_n hc dX0_readInto_21 0 rfl ?_
        refine V_get (C := RX0) (T := TX0) (N := 2) hc i_X0_readInto_0 0 rfl rfl 0 (by decide) m_X0_readInto_9 rfl dX0_readInto_22 ?_
        refine V_iload hc dX0_readInto_25 5 rfl ?_
        refine V_cald hc 1 rfl (by decide) hv dX0_readInto_27 (fun hv => ?_)
        refine V_bipush hc dX0_readInto_28 (by decide) ?_
        refine V_icmp_ne (tgt := 58) hc dX0_readInto_30 (by decide) ⟨hv.1, by decide, hv.2⟩ (fun hv => ?_) (fun hv => ?_)
        · exact C_58 leX chX aP x2 x3 x4 x5 K_12 hK_12 hv
        · refine V_iload_n hc dX0_readInto_33 2 rfl ?_
          refine V_callSI (As := [.int (iI x2)]) hc (wc := []) (wr := [oB hX 0 [.ref chXA, .int (iI leX)], aC t chXA 60 chX, aI t hP 60 aP]) (pmI (ws := [oB hX 0 [.ref chXA, .int (iI leX)], aC t chXA 60 chX, aI t hP 60 aP]) (ws1 := [] ++ [oB hX 0 [.ref chXA, .int (iI leX)], aC t chXA 60 chX, aI t hP 60 aP]) [0, 1, 2] 3 rfl (by decide +kernel) rfl) (met_X0_endsAct l D t x2 _ hv) rfl gX0_readInto_X0_endsAct rfl ⟨rfl, rfl⟩ ok_X0_endsAct (by decide) (Nat.le_of_ble_eq_true rfl) dX0_readInto_34 (by decide) (fun r_3 _ hv => ?_)
          try dsimp only at hv
          refine V_perm (ws1 := [oB hX 0 [.ref chXA, .int (iI leX)], aC t chXA 60 chX, aI t hP 60 aP]) (pmI (ws := [] ++ [oB hX 0 [.ref chXA, .int (iI leX)], aC t chXA 60 chX, aI t hP 60 aP]) (ws1 := [oB hX 0 [.ref chXA, .int (iI leX)], aC t chXA 60 chX, aI t hP 60 aP]) [0, 1, 2] 3 rfl (by decide +kernel) rfl) ?_
          refine V_if_eq (tgt := 58) hc dX0_readInto_37 (by decide) hv (fun hv => ?_) (fun hv => ?_)
          · exact C_58 leX chX aP x2 x3 x4 x5 K_12 hK_12 hv
          · refine V_iload_n hc dX0_readInto_40 3 rfl ?_
            refine V_aload_n hc dX0_readInto_41 1 rfl ?_
            refine V_alen hc 2 (ti := 0) (v := 60) rfl rfl (by decide) dX0_readInto_42 ?_
            refine V_icmp_ge (tgt := 58) hc dX0_readInto_43 (by decide) ⟨hv.1, by decide, hv.2⟩ (fun hv => ?_) (fun hv => ?_)
            · exact C_58 leX chX aP x2 x3 x4 x5 K_12 hK_12 hv
            · refine V_aload_n hc dX0_readInto_46 1 rfl ?_
              refine V_iload_n hc dX0_readInto_47 3 rfl ?_
              refine V_iload_n hc dX0_readInto_48 2 rfl ?_
              refine V_iload hc dX0_readInto_49 4 rfl ?_
              refine V_callSI (As := [.int (iI x2), .int (iI x4)]) hc (wc := []) (wr := [oB hX 0 [.ref chXA, .int (iI leX)], aC t chXA 60 chX, aI t hP 60 aP]) (pmI (ws := [oB hX 0 [.ref chXA, .int (iI leX)], aC t chXA 60 chX, aI t hP 60 aP]) (ws1 := [] ++ [oB hX 0 [.ref chXA, .int (iI leX)], aC t chXA 60 chX, aI t hP 60 aP]) [0, 1, 2] 3 rfl (by decide +kernel) rfl) (met_X0_actOf l D t x2 x4 _ hv) rfl gX0_readInto_X0_actOf rfl ⟨rfl, rfl⟩ ok_X0_actOf (by decide) (Nat.le_of_ble_eq_true rfl) dX0_readInto_51 (by decide) (fun r_4 _ hv => ?_)
              try dsimp only at hv
              refine V_perm (ws1 := [oB hX 0 [.ref chXA, .int (iI leX)], aC t chXA 60 chX, aI t hP 60 aP]) (pmI (ws := [] ++ [oB hX 0 [.ref chXA, .int (iI leX)], aC t chXA 60 chX, aI t hP 60 aP]) (ws1 := [oB hX 0 [.ref chXA, .int (iI leX)], aC t chXA 60 chX, aI t hP 60 aP]) [0, 1, 2] 3 rfl (by decide +kernel) rfl) ?_
              refine V_iast hc 2 rfl (by decide) hv dX0_readInto_54 [oB hX 0 [.ref chXA, .int (iI leX)], aC t chXA 60 chX, aI t hP 60 (uI aP (x3.toNat) r_4)] rfl (fun hv => ?_)
              refine V_iinc hc dX0_readInto_55 3 rfl [(3, .int (iI (x3 + 1))), (0, .ref hX), (1, .ref hP), (2, .int (iI x2)), (4, .int (iI x4)), (5, .int (iI x5))] (by decide) rfl ?_
              refine V_lv [1, 2, 3, 0, 4, 5] [(0, .ref hX), (1, .ref hP), (2, .int (iI x2)), (3, .int (iI (x3 + 1))), (4, .int (iI x4)), (5, .int (iI x5))] rfl ?_
              exact C_58 leX chX (uI aP (x3.toNat) r_4) x2 (x3 + 1) x4 x5 K_12 hK_12 hv
  refine V_lv [0, 1] [(0, .ref hX), (1, .ref hP)] rfl ?_
  unfold wp_X0_readInto at hv
  refine V_sipush hc dX0_readInto_0 (by decide) ?_
  refine V_istore_n hc dX0_readInto_3 [(2, .int (iI 500)), (0, .ref hX), (1, .ref hP)] (by decide) rfl ?_
  refine V_iconst hc dX0_readInto_4 ?_
  refine V_istore_n hc dX0_readInto_5 [(3, .int (iI 0)), (2, .int (iI 500)), (0, .ref hX), (1, .ref hP)] (by decide) rfl ?_
  refine V_iconst hc dX0_readInto_6 ?_
  refine V_istore hc dX0_readInto_7 [(4, .int (iI 0)), (3, .int (iI 0)), (2, .int (iI 500)), (0, .ref hX), (1, .ref hP)] (by decide) rfl ?_
  refine V_iconst hc dX0_readInto_9 ?_
  refine V_istore hc dX0_readInto_10 [(5, .int (iI 0)), (4, .int (iI 0)), (3, .int (iI 0)), (2, .int (iI 500)), (0, .ref hX), (1, .ref hP)] (by decide) rfl ?_
  refine V_lv [4, 5, 3, 2, 1, 0] [(0, .ref hX), (1, .ref hP), (2, .int (iI 500)), (3, .int (iI 0)), (4, .int (iI 0)), (5, .int (iI 0))] rfl ?_
  obtain ⟨n9, hv⟩ := hv
  exact L_12 leX chX n9 aP 500 0 0 0 hv
abbrev W1_X2_becomeCopyOf (t : Nat → ClassId) (hS : Nat) (hSf : Nat) (hSj : Nat) (seSA : Nat) (coSA : Nat) (kSfA : Nat) (dSfA : Nat) (mSfA : Nat) (hSjs : Nat) (liSjA : Nat) (quSjA : Nat) (kSjsA : Nat) (dSjsA : Nat) (mSjsA : Nat) (hO : Nat) (hOf : Nat) (hOj : Nat) (seOA : Nat) (coOA : Nat) (kOfA : Nat) (dOfA : Nat) (mOfA : Nat) (hOjs : Nat) (liOjA : Nat) (quOjA : Nat) (kOjsA : Nat) (dOjsA : Nat) (mOjsA : Nat) (nOf : Int) (kOf : Nat → Int) (dOf : Nat → Int) (mOf : Nat → Int) (nlOj : Int) (ncOj : Int) (nwOj : Int) (ruOj : Int) (nOjs : Int) (kOjs : Nat → Int) (dOjs : Nat → Int) (mOjs : Nat → Int) (liOj : Nat → Int) (quOj : Nat → Int) (seO : Nat → Int) (coO : Nat → Int) (u : (Int) × (Nat → Int) × (Nat → Int) × (Nat → Int) × (Int) × (Int) × (Int) × (Int) × (Int) × (Nat → Int) × (Nat → Int) × (Nat → Int) × (Nat → Int) × (Nat → Int) × (Nat → Int) × (Nat → Int)) : va_W := [oB hS 2 [.ref hSf, .ref hSj, .ref seSA, .ref coSA], oB hSf 3 [.ref kSfA, .ref dSfA, .ref mSfA, .int (iI u.1)], aI t kSfA 120 u.2.1, aI t dSfA 120 u.2.2.1, aZ t mSfA 120 u.2.2.2.1, oB hSj 1 [.ref hSjs, .ref liSjA, .int (iI u.2.2.2.2.1), .int (iI u.2.2.2.2.2.1), .ref quSjA, .int (iI u.2.2.2.2.2.2.1), .int (iI u.2.2.2.2.2.2.2.1)], oB hSjs 3 [.ref kSjsA, .ref dSjsA, .ref mSjsA, .int (iI u.2.2.2.2.2.2.2.2.1)], aI t kSjsA 120 u.2.2.2.2.2.2.2.2.2.1, aI t dSjsA 120 u.2.2.2.2.2.2.2.2.2.2.1, aZ t mSjsA 120 u.2.2.2.2.2.2.2.2.2.2.2.1, aI t liSjA 120 u.2.2.2.2.2.2.2.2.2.2.2.2.1, aI t quSjA 30 u.2.2.2.2.2.2.2.2.2.2.2.2.2.1, aI t seSA 3 u.2.2.2.2.2.2.2.2.2.2.2.2.2.2.1, aI t coSA 7 u.2.2.2.2.2.2.2.2.2.2.2.2.2.2.2, oB hO 2 [.ref hOf, .ref hOj, .ref seOA, .ref coOA], oB hOf 3 [.ref kOfA, .ref dOfA, .ref mOfA, .int (iI nOf)], aI t kOfA 120 kOf, aI t dOfA 120 dOf, aZ t mOfA 120 mOf, oB hOj 1 [.ref hOjs, .ref liOjA, .int (iI nlOj), .int (iI ncOj), .ref quOjA, .int (iI nwOj), .int (iI ruOj)], oB hOjs 3 [.ref kOjsA, .ref dOjsA, .ref mOjsA, .int (iI nOjs)], aI t kOjsA 120 kOjs, aI t dOjsA 120 dOjs, aZ t mOjsA 120 mOjs, aI t liOjA 120 liOj, aI t quOjA 30 quOj, aI t seOA 3 seO, aI t coOA 7 coO]
abbrev po_X2_becomeCopyOf (Q : (Int) → (Nat → Int) → (Nat → Int) → (Nat → Int) → (Int) → (Int) → (Int) → (Int) → (Int) → (Nat → Int) → (Nat → Int) → (Nat → Int) → (Nat → Int) → (Nat → Int) → (Nat → Int) → (Nat → Int) → Prop) (u : (Int) × (Nat → Int) × (Nat → Int) × (Nat → Int) × (Int) × (Int) × (Int) × (Int) × (Int) × (Nat → Int) × (Nat → Int) × (Nat → Int) × (Nat → Int) × (Nat → Int) × (Nat → Int) × (Nat → Int)) : Prop := Q u.1 u.2.1 u.2.2.1 u.2.2.2.1 u.2.2.2.2.1 u.2.2.2.2.2.1 u.2.2.2.2.2.2.1 u.2.2.2.2.2.2.2.1 u.2.2.2.2.2.2.2.2.1 u.2.2.2.2.2.2.2.2.2.1 u.2.2.2.2.2.2.2.2.2.2.1 u.2.2.2.2.2.2.2.2.2.2.2.1 u.2.2.2.2.2.2.2.2.2.2.2.2.1 u.2.2.2.2.2.2.2.2.2.2.2.2.2.1 u.2.2.2.2.2.2.2.2.2.2.2.2.2.2.1 u.2.2.2.2.2.2.2.2.2.2.2.2.2.2.2
abbrev rm_X2_becomeCopyOf : Room := { frames := 3, cells := 0, slots := 0, locals := 102 }
def wp_X2_becomeCopyOf (nSf : Int) (kSf : Nat → Int) (dSf : Nat → Int) (mSf : Nat → Int) (nlSj : Int) (ncSj : Int) (nwSj : Int) (ruSj : Int) (nSjs : Int) (kSjs : Nat → Int) (dSjs : Nat → Int) (mSjs : Nat → Int) (liSj : Nat → Int) (quSj : Nat → Int) (seS : Nat → Int) (coS : Nat → Int) (nOf : Int) (kOf : Nat → Int) (dOf : Nat → Int) (mOf : Nat → Int) (nlOj : Int) (ncOj : Int) (nwOj : Int) (ruOj : Int) (nOjs : Int) (kOjs : Nat → Int) (dOjs : Nat → Int) (mOjs : Nat → Int) (liOj : Nat → Int) (quOj : Nat → Int) (seO : Nat → Int) (coO : Nat → Int) (Q : (Int) → (Nat → Int) → (Nat → Int) → (Nat → Int) → (Int) → (Int) → (Int) → (Int) → (Int) → (Nat → Int) → (Nat → Int) → (Nat → Int) → (Nat → Int) → (Nat → Int) → (Nat → Int) → (Nat → Int) → Prop) : Prop := wp_X3_becomeCopyOf nSf kSf dSf mSf nOf kOf dOf mOf (fun nSf_1 kSf_1 dSf_1 mSf_1 => wp_X1_becomeCopyOf nlSj ncSj nwSj ruSj nSjs kSjs dSjs mSjs liSj quSj nlOj ncOj nwOj ruOj nOjs kOjs dOjs mOjs liOj quOj (fun nlSj_2 ncSj_2 nwSj_2 ruSj_2 nSjs_2 kSjs_2 dSjs_2 mSjs_2 liSj_2 quSj_2 => (0 ≤ (0 : Int) ∧ 0 ≤ (0 : Int) ∧ 0 ≤ (3 : Int)) ∧ ((0 : Int) + 3 ≤ 3 ∧ (0 : Int) + 3 ≤ 3) ∧ (0 ≤ (0 : Int) ∧ 0 ≤ (0 : Int) ∧ 0 ≤ (7 : Int)) ∧ ((0 : Int) + 7 ≤ 7 ∧ (0 : Int) + 7 ≤ 7) ∧ Q nSf_1 kSf_1 dSf_1 mSf_1 nlSj_2 ncSj_2 nwSj_2 ruSj_2 nSjs_2 kSjs_2 dSjs_2 mSjs_2 liSj_2 quSj_2 (cpI seO seS 0 0 3) (cpI coO coS 0 0 7)))
theorem m_X2_becomeCopyOf_12 : Cond.fieldLink RX2 12 "BackgroundRebuild$State" "firstTree" "LBackgroundRebuild$Tree;" ∈ wsX2_becomeCopyOf := by decide +kernel
theorem m_X2_becomeCopyOf_21 : Cond.fieldLink RX2 21 "BackgroundRebuild$State" "job" "LBackgroundRebuild$Rebuild;" ∈ wsX2_becomeCopyOf := by decide +kernel
theorem m_X2_becomeCopyOf_34 : Cond.fieldLink RX2 34 "BackgroundRebuild$State" "settings" "[I" ∈ wsX2_becomeCopyOf := by decide +kernel
theorem m_X2_becomeCopyOf_ac47 : Cond.methodLink RX2 47 arraycopyName ∈ wsX2_becomeCopyOf := by decide +kernel
theorem m_X2_becomeCopyOf_acn : Cond.native arraycopyName ∈ wsX2_becomeCopyOf := by decide +kernel
theorem m_X2_becomeCopyOf_acs : Cond.static arraycopyName ∈ wsX2_becomeCopyOf := by decide +kernel
theorem m_X2_becomeCopyOf_aci : Cond.initialized "java/lang/System" ∈ wsX2_becomeCopyOf := by decide +kernel
theorem m_X2_becomeCopyOf_37 : Cond.fieldLink RX2 37 "BackgroundRebuild$State" "counts" "[I" ∈ wsX2_becomeCopyOf := by decide +kernel
theorem i_X2_becomeCopyOf_2 : ∀ w ∈ u_ws RX2 TX2 4, w ∈ wsX2_becomeCopyOf := by decide +kernel
theorem ok_X2_becomeCopyOf : yX2_becomeCopyOf.cls = RX2 ∧ yX2_becomeCopyOf.cls ≠ "java/lang/invoke/MethodHandle" ∧ yX2_becomeCopyOf.cls ≠ "java/lang/invoke/VarHandle" ∧ (parseMethodDescriptor yX2_becomeCopyOf.desc).map (fun d => d.parameters.length) = some 1 := by decide +kernel
set_option maxHeartbeats 4000000 in
set_option maxRecDepth 100000 in
theorem met_X2_becomeCopyOf (l : Launch) (D : va_G) (t : Nat → ClassId) (hS : Nat) (hSf : Nat) (hSj : Nat) (seSA : Nat) (coSA : Nat) (kSfA : Nat) (dSfA : Nat) (mSfA : Nat) (hSjs : Nat) (liSjA : Nat) (quSjA : Nat) (kSjsA : Nat) (dSjsA : Nat) (mSjsA : Nat) (hO : Nat) (hOf : Nat) (hOj : Nat) (seOA : Nat) (coOA : Nat) (kOfA : Nat) (dOfA : Nat) (mOfA : Nat) (hOjs : Nat) (liOjA : Nat) (quOjA : Nat) (kOjsA : Nat) (dOjsA : Nat) (mOjsA : Nat) (nSf : Int) (kSf : Nat → Int) (dSf : Nat → Int) (mSf : Nat → Int) (nlSj : Int) (ncSj : Int) (nwSj : Int) (ruSj : Int) (nSjs : Int) (kSjs : Nat → Int) (dSjs : Nat → Int) (mSjs : Nat → Int) (liSj : Nat → Int) (quSj : Nat → Int) (seS : Nat → Int) (coS : Nat → Int) (nOf : Int) (kOf : Nat → Int) (dOf : Nat → Int) (mOf : Nat → Int) (nlOj : Int) (ncOj : Int) (nwOj : Int) (ruOj : Int) (nOjs : Int) (kOjs : Nat → Int) (dOjs : Nat → Int) (mOjs : Nat → Int) (liOj : Nat → Int) (quOj : Nat → Int) (seO : Nat → Int) (coO : Nat → Int) (Q : (Int) → (Nat → Int) → (Nat → Int) → (Nat → Int) → (Int) → (Int) → (Int) → (Int) → (Int) → (Nat → Int) → (Nat → Int) → (Nat → Int) → (Nat → Int) → (Nat → Int) → (Nat → Int) → (Nat → Int) → Prop) (hv : wp_X2_becomeCopyOf nSf kSf dSf mSf nlSj ncSj nwSj ruSj nSjs kSjs dSjs mSjs liSj quSj seS coS nOf kOf dOf mOf nlOj ncOj nwOj ruOj nOjs kOjs dOjs mOjs liOj quOj seO coO Q) : MV l D t yX2_becomeCopyOf wsX2_becomeCopyOf rm_X2_becomeCopyOf [.ref hS, .ref hO] [oB hS 2 [.ref hSf, .ref hSj, .ref seSA, .ref coSA], oB hSf 3 [.ref kSfA, .ref dSfA, .ref mSfA, .int (iI nSf)], aI t kSfA 120 kSf, aI t dSfA 120 dSf, aZ t mSfA 120 mSf, oB hSj 1 [.ref hSjs, .ref liSjA, .int (iI nlSj), .int (iI ncSj), .ref quSjA, .int (iI nwSj), .int (iI ruSj)], oB hSjs 3 [.ref kSjsA, .ref dSjsA, .ref mSjsA, .int (iI nSjs)], aI t kSjsA 120 kSjs, aI t dSjsA 120 dSjs, aZ t mSjsA 120 mSjs, aI t liSjA 120 liSj, aI t quSjA 30 quSj, aI t seSA 3 seS, aI t coSA 7 coS, oB hO 2 [.ref hOf, .ref hOj, .ref seOA, .ref coOA], oB hOf 3 [.ref kOfA, .ref dOfA, .ref mOfA, .int (iI nOf)], aI t kOfA 120 kOf, aI t dOfA 120 dOf, aZ t mOfA 120 mOf, oB hOj 1 [.ref hOjs, .ref liOjA, .int (iI nlOj), .int (iI ncOj), .ref quOjA, .int (iI nwOj), .int (iI ruOj)], oB hOjs 3 [.ref kOjsA, .ref dOjsA, .ref mOjsA, .int (iI nOjs)], aI t kOjsA 120 kOjs, aI t dOjsA 120 dOjs, aZ t mOjsA 120 mOjs, aI t liOjA 120 liOj, aI t quOjA 30 quOj, aI t seOA 3 seO, aI t coOA 7 coO] (W1_X2_becomeCopyOf t hS hSf hSj seSA coSA kSfA dSfA mSfA hSjs liSjA quSjA kSjsA dSjsA mSjsA hO hOf hOj seOA coOA kOfA dOfA mOfA hOjs liOjA quOjA kOjsA dOjsA mOjsA nOf kOf dOf mOf nlOj ncOj nwOj ruOj nOjs kOjs dOjs mOjs liOj quOj seO coO) (po_X2_becomeCopyOf Q) 0 0 := by
  refine M_ofv (cc := cX2_becomeCopyOf) (nL := 2) (by decide) rfl (Nat.le_of_ble_eq_true rfl) ?_
  intro p e s m args below meth c A hc hr
  refine V_lv [0, 1] [(0, .ref hS), (1, .ref hO)] rfl ?_
  unfold wp_X2_becomeCopyOf at hv
  refine V_aload_n hc dX2_becomeCopyOf_0 0 rfl ?_
  refine V_get (C := RX2) (T := TX2) (N := 4) hc i_X2_becomeCopyOf_2 0 rfl rfl 0 (by decide) m_X2_becomeCopyOf_12 rfl dX2_becomeCopyOf_1 ?_
  refine V_aload_n hc dX2_becomeCopyOf_4 1 rfl ?_
  refine V_get (C := RX2) (T := TX2) (N := 4) hc i_X2_becomeCopyOf_2 14 rfl rfl 0 (by decide) m_X2_becomeCopyOf_12 rfl dX2_becomeCopyOf_5 ?_
  refine V_callVV (As := [.ref hOf]) hc (wc := [oB hSf 3 [.ref kSfA, .ref dSfA, .ref mSfA, .int (iI nSf)], aI t kSfA 120 kSf, aI t dSfA 120 dSf, aZ t mSfA 120 mSf, oB hOf 3 [.ref kOfA, .ref dOfA, .ref mOfA, .int (iI nOf)], aI t kOfA 120 kOf, aI t dOfA 120 dOf, aZ t mOfA 120 mOf]) (wr := [oB hS 2 [.ref hSf, .ref hSj, .ref seSA, .ref coSA], oB hSj 1 [.ref hSjs, .ref liSjA, .int (iI nlSj), .int (iI ncSj), .ref quSjA, .int (iI nwSj), .int (iI ruSj)], oB hSjs 3 [.ref kSjsA, .ref dSjsA, .ref mSjsA, .int (iI nSjs)], aI t kSjsA 120 kSjs, aI t dSjsA 120 dSjs, aZ t mSjsA 120 mSjs, aI t liSjA 120 liSj, aI t quSjA 30 quSj, aI t seSA 3 seS, aI t coSA 7 coS, oB hO 2 [.ref hOf, .ref hOj, .ref seOA, .ref coOA], oB hOj 1 [.ref hOjs, .ref liOjA, .int (iI nlOj), .int (iI ncOj), .ref quOjA, .int (iI nwOj), .int (iI ruOj)], oB hOjs 3 [.ref kOjsA, .ref dOjsA, .ref mOjsA, .int (iI nOjs)], aI t kOjsA 120 kOjs, aI t dOjsA 120 dOjs, aZ t mOjsA 120 mOjs, aI t liOjA 120 liOj, aI t quOjA 30 quOj, aI t seOA 3 seO, aI t coOA 7 coO]) (pmI (ws := [oB hS 2 [.ref hSf, .ref hSj, .ref seSA, .ref coSA], oB hSf 3 [.ref kSfA, .ref dSfA, .ref mSfA, .int (iI nSf)], aI t kSfA 120 kSf, aI t dSfA 120 dSf, aZ t mSfA 120 mSf, oB hSj 1 [.ref hSjs, .ref liSjA, .int (iI nlSj), .int (iI ncSj), .ref quSjA, .int (iI nwSj), .int (iI ruSj)], oB hSjs 3 [.ref kSjsA, .ref dSjsA, .ref mSjsA, .int (iI nSjs)], aI t kSjsA 120 kSjs, aI t dSjsA 120 dSjs, aZ t mSjsA 120 mSjs, aI t liSjA 120 liSj, aI t quSjA 30 quSj, aI t seSA 3 seS, aI t coSA 7 coS, oB hO 2 [.ref hOf, .ref hOj, .ref seOA, .ref coOA], oB hOf 3 [.ref kOfA, .ref dOfA, .ref mOfA, .int (iI nOf)], aI t kOfA 120 kOf, aI t dOfA 120 dOf, aZ t mOfA 120 mOf, oB hOj 1 [.ref hOjs, .ref liOjA, .int (iI nlOj), .int (iI ncOj), .ref quOjA, .int (iI nwOj), .int (iI ruOj)], oB hOjs 3 [.ref kOjsA, .ref dOjsA, .ref mOjsA, .int (iI nOjs)], aI t kOjsA 120 kOjs, aI t dOjsA 120 dOjs, aZ t mOjsA 120 mOjs, aI t liOjA 120 liOj, aI t quOjA 30 quOj, aI t seOA 3 seO, aI t coOA 7 coO]) (ws1 := [oB hSf 3 [.ref kSfA, .ref dSfA, .ref mSfA, .int (iI nSf)], aI t kSfA 120 kSf, aI t dSfA 120 dSf, aZ t mSfA 120 mSf, oB hOf 3 [.ref kOfA, .ref dOfA, .ref mOfA, .int (iI nOf)], aI t kOfA 120 kOf, aI t dOfA 120 dOf, aZ t mOfA 120 mOf] ++ [oB hS 2 [.ref hSf, .ref hSj, .ref seSA, .ref coSA], oB hSj 1 [.ref hSjs, .ref liSjA, .int (iI nlSj), .int (iI ncSj), .ref quSjA, .int (iI nwSj), .int (iI ruSj)], oB hSjs 3 [.ref kSjsA, .ref dSjsA, .ref mSjsA, .int (iI nSjs)], aI t kSjsA 120 kSjs, aI t dSjsA 120 dSjs, aZ t mSjsA 120 mSjs, aI t liSjA 120 liSj, aI t quSjA 30 quSj, aI t seSA 3 seS, aI t coSA 7 coS, oB hO 2 [.ref hOf, .ref hOj, .ref seOA, .ref coOA], oB hOj 1 [.ref hOjs, .ref liOjA, .int (iI nlOj), .int (iI ncOj), .ref quOjA, .int (iI nwOj), .int (iI ruOj)], oB hOjs 3 [.ref kOjsA, .ref dOjsA, .ref mOjsA, .int (iI nOjs)], aI t kOjsA 120 kOjs, aI t dOjsA 120 dOjs, aZ t mOjsA 120 mOjs, aI t liOjA 120 liOj, aI t quOjA 30 quOj, aI t seOA 3 seO, aI t coOA 7 coO]) [1, 2, 3, 4, 15, 16, 17, 18, 0, 5, 6, 7, 8, 9, 10, 11, 12, 13, 14, 19, 20, 21, 22, 23, 24, 25, 26, 27] 28 rfl (by decide +kernel) rfl) rfl rfl (met_X3_becomeCopyOf l D t hSf kSfA dSfA mSfA hOf kOfA dOfA mOfA nSf kSf dSf mSf nOf kOf dOf mOf _ hv) rfl gX2_becomeCopyOf_X3_becomeCopyOf rfl ⟨rfl, rfl⟩ ok_X3_becomeCopyOf (by decide) (Nat.le_of_ble_eq_true rfl) dX2_becomeCopyOf_8 (by decide) (fun u9 hv => ?_)
  obtain ⟨nSf_1, kSf_1, dSf_1, mSf_1⟩ := u9
  try dsimp only at hv
  refine V_perm (ws1 := [oB hS 2 [.ref hSf, .ref hSj, .ref seSA, .ref coSA], oB hSf 3 [.ref kSfA, .ref dSfA, .ref mSfA, .int (iI nSf_1)], aI t kSfA 120 kSf_1, aI t dSfA 120 dSf_1, aZ t mSfA 120 mSf_1, oB hSj 1 [.ref hSjs, .ref liSjA, .int (iI nlSj), .int (iI ncSj), .ref quSjA, .int (iI nwSj), .int (iI ruSj)], oB hSjs 3 [.ref kSjsA, .ref dSjsA, .ref mSjsA, .int (iI nSjs)], aI t kSjsA 120 kSjs, aI t dSjsA 120 dSjs, aZ t mSjsA 120 mSjs, aI t liSjA 120 liSj, aI t quSjA 30 quSj, aI t seSA 3 seS, aI t coSA 7 coS, oB hO 2 [.ref hOf, .ref hOj, .ref seOA, .ref coOA], oB hOf 3 [.ref kOfA, .ref dOfA, .ref mOfA, .int (iI nOf)], aI t kOfA 120 kOf, aI t dOfA 120 dOf, aZ t mOfA 120 mOf, oB hOj 1 [.ref hOjs, .ref liOjA, .int (iI nlOj), .int (iI ncOj), .ref quOjA, .int (iI nwOj), .int (iI ruOj)], oB hOjs 3 [.ref kOjsA, .ref dOjsA, .ref mOjsA, .int (iI nOjs)], aI t kOjsA 120 kOjs, aI t dOjsA 120 dOjs, aZ t mOjsA 120 mOjs, aI t liOjA 120 liOj, aI t quOjA 30 quOj, aI t seOA 3 seO, aI t coOA 7 coO]) (pmI (ws := [oB hSf 3 [.ref kSfA, .ref dSfA, .ref mSfA, .int (iI nSf_1)], aI t kSfA 120 kSf_1, aI t dSfA 120 dSf_1, aZ t mSfA 120 mSf_1, oB hOf 3 [.ref kOfA, .ref dOfA, .ref mOfA, .int (iI nOf)], aI t kOfA 120 kOf, aI t dOfA 120 dOf, aZ t mOfA 120 mOf] ++ [oB hS 2 [.ref hSf, .ref hSj, .ref seSA, .ref coSA], oB hSj 1 [.ref hSjs, .ref liSjA, .int (iI nlSj), .int (iI ncSj), .ref quSjA, .int (iI nwSj), .int (iI ruSj)], oB hSjs 3 [.ref kSjsA, .ref dSjsA, .ref mSjsA, .int (iI nSjs)], aI t kSjsA 120 kSjs, aI t dSjsA 120 dSjs, aZ t mSjsA 120 mSjs, aI t liSjA 120 liSj, aI t quSjA 30 quSj, aI t seSA 3 seS, aI t coSA 7 coS, oB hO 2 [.ref hOf, .ref hOj, .ref seOA, .ref coOA], oB hOj 1 [.ref hOjs, .ref liOjA, .int (iI nlOj), .int (iI ncOj), .ref quOjA, .int (iI nwOj), .int (iI ruOj)], oB hOjs 3 [.ref kOjsA, .ref dOjsA, .ref mOjsA, .int (iI nOjs)], aI t kOjsA 120 kOjs, aI t dOjsA 120 dOjs, aZ t mOjsA 120 mOjs, aI t liOjA 120 liOj, aI t quOjA 30 quOj, aI t seOA 3 seO, aI t coOA 7 coO]) (ws1 := [oB hS 2 [.ref hSf, .ref hSj, .ref seSA, .ref coSA], oB hSf 3 [.ref kSfA, .ref dSfA, .ref mSfA, .int (iI nSf_1)], aI t kSfA 120 kSf_1, aI t dSfA 120 dSf_1, aZ t mSfA 120 mSf_1, oB hSj 1 [.ref hSjs, .ref liSjA, .int (iI nlSj), .int (iI ncSj), .ref quSjA, .int (iI nwSj), .int (iI ruSj)], oB hSjs 3 [.ref kSjsA, .ref dSjsA, .ref mSjsA, .int (iI nSjs)], aI t kSjsA 120 kSjs, aI t dSjsA 120 dSjs, aZ t mSjsA 120 mSjs, aI t liSjA 120 liSj, aI t quSjA 30 quSj, aI t seSA 3 seS, aI t coSA 7 coS, oB hO 2 [.ref hOf, .ref hOj, .ref seOA, .ref coOA], oB hOf 3 [.ref kOfA, .ref dOfA, .ref mOfA, .int (iI nOf)], aI t kOfA 120 kOf, aI t dOfA 120 dOf, aZ t mOfA 120 mOf, oB hOj 1 [.ref hOjs, .ref liOjA, .int (iI nlOj), .int (iI ncOj), .ref quOjA, .int (iI nwOj), .int (iI ruOj)], oB hOjs 3 [.ref kOjsA, .ref dOjsA, .ref mOjsA, .int (iI nOjs)], aI t kOjsA 120 kOjs, aI t dOjsA 120 dOjs, aZ t mOjsA 120 mOjs, aI t liOjA 120 liOj, aI t quOjA 30 quOj, aI t seOA 3 seO, aI t coOA 7 coO]) [8, 0, 1, 2, 3, 9, 10, 11, 12, 13, 14, 15, 16, 17, 18, 4, 5, 6, 7, 19, 20, 21, 22, 23, 24, 25, 26, 27] 28 rfl (by decide +kernel) rfl) ?_
  refine V_aload_n hc dX2_becomeCopyOf_11 0 rfl ?_
  refine V_get (C := RX2) (T := TX2) (N := 4) hc i_X2_becomeCopyOf_2 0 rfl rfl 1 (by decide) m_X2_becomeCopyOf_21 rfl dX2_becomeCopyOf_12 ?_
  refine V_aload_n hc dX2_becomeCopyOf_15 1 rfl ?_
  refine V_get (C := RX2) (T := TX2) (N := 4) hc i_X2_becomeCopyOf_2 14 rfl rfl 1 (by decide) m_X2_becomeCopyOf_21 rfl dX2_becomeCopyOf_16 ?_
  refine V_callVV (As := [.ref hOj]) hc (wc := [oB hSj 1 [.ref hSjs, .ref liSjA, .int (iI nlSj), .int (iI ncSj), .ref quSjA, .int (iI nwSj), .int (iI ruSj)], oB hSjs 3 [.ref kSjsA, .ref dSjsA, .ref mSjsA, .int (iI nSjs)], aI t kSjsA 120 kSjs, aI t dSjsA 120 dSjs, aZ t mSjsA 120 mSjs, aI t liSjA 120 liSj, aI t quSjA 30 quSj, oB hOj 1 [.ref hOjs, .ref liOjA, .int (iI nlOj), .int (iI ncOj), .ref quOjA, .int (iI nwOj), .int (iI ruOj)], oB hOjs 3 [.ref kOjsA, .ref dOjsA, .ref mOjsA, .int (iI nOjs)], aI t kOjsA 120 kOjs, aI t dOjsA 120 dOjs, aZ t mOjsA 120 mOjs, aI t liOjA 120 liOj, aI t quOjA 30 quOj]) (wr := [oB hS 2 [.ref hSf, .ref hSj, .ref seSA, .ref coSA], oB hSf 3 [.ref kSfA, .ref dSfA, .ref mSfA, .int (iI nSf_1)], aI t kSfA 120 kSf_1, aI t dSfA 120 dSf_1, aZ t mSfA 120 mSf_1, aI t seSA 3 seS, aI t coSA 7 coS, oB hO 2 [.ref hOf, .ref hOj, .ref seOA, .ref coOA], oB hOf 3 [.ref kOfA, .ref dOfA, .ref mOfA, .int (iI nOf)], aI t kOfA 120 kOf, aI t dOfA 120 dOf, aZ t mOfA 120 mOf, aI t seOA 3 seO, aI t coOA 7 coO]) (pmI (ws := [oB hS 2 [.ref hSf, .ref hSj, .ref seSA, .ref coSA], oB hSf 3 [.ref kSfA, .ref dSfA, .ref mSfA, .int (iI nSf_1)], aI t kSfA 120 kSf_1, aI t dSfA 120 dSf_1, aZ t mSfA 120 mSf_1, oB hSj 1 [.ref hSjs, .ref liSjA, .int (iI nlSj), .int (iI ncSj), .ref quSjA, .int (iI nwSj), .int (iI ruSj)], oB hSjs 3 [.ref kSjsA, .ref dSjsA, .ref mSjsA, .int (iI nSjs)], aI t kSjsA 120 kSjs, aI t dSjsA 120 dSjs, aZ t mSjsA 120 mSjs, aI t liSjA 120 liSj, aI t quSjA 30 quSj, aI t seSA 3 seS, aI t coSA 7 coS, oB hO 2 [.ref hOf, .ref hOj, .ref seOA, .ref coOA], oB hOf 3 [.ref kOfA, .ref dOfA, .ref mOfA, .int (iI nOf)], aI t kOfA 120 kOf, aI t dOfA 120 dOf, aZ t mOfA 120 mOf, oB hOj 1 [.ref hOjs, .ref liOjA, .int (iI nlOj), .int (iI ncOj), .ref quOjA, .int (iI nwOj), .int (iI ruOj)], oB hOjs 3 [.ref kOjsA, .ref dOjsA, .ref mOjsA, .int (iI nOjs)], aI t kOjsA 120 kOjs, aI t dOjsA 120 dOjs, aZ t mOjsA 120 mOjs, aI t liOjA 120 liOj, aI t quOjA 30 quOj, aI t seOA 3 seO, aI t coOA 7 coO]) (ws1 := [oB hSj 1 [.ref hSjs, .ref liSjA, .int (iI nlSj), .int (iI ncSj), .ref quSjA, .int (iI nwSj), .int (iI ruSj)], oB hSjs 3 [.ref kSjsA, .ref dSjsA, .ref mSjsA, .int (iI nSjs)], aI t kSjsA 120 kSjs, aI t dSjsA 120 dSjs, aZ t mSjsA 120 mSjs, aI t liSjA 120 liSj, aI t quSjA 30 quSj, oB hOj 1 [.ref hOjs, .ref liOjA, .int (iI nlOj), .int (iI ncOj), .ref quOjA, .int (iI nwOj), .int (iI ruOj)], oB hOjs 3 [.ref kOjsA, .ref dOjsA, .ref mOjsA, .int (iI nOjs)], aI t kOjsA 120 kOjs, aI t dOjsA 120 dOjs, aZ t mOjsA 120 mOjs, aI t liOjA 120 liOj, aI t quOjA 30 quOj] ++ [oB hS 2 [.ref hSf, .ref hSj, .ref seSA, .ref coSA], oB hSf 3 [.ref kSfA, .ref dSfA, .ref mSfA, .int (iI nSf_1)], aI t kSfA 120 kSf_1, aI t dSfA 120 dSf_1, aZ t mSfA 120 mSf_1, aI t seSA 3 seS, aI t coSA 7 coS, oB hO 2 [.ref hOf, .ref hOj, .ref seOA, .ref coOA], oB hOf 3 [.ref kOfA, .ref dOfA, .ref mOfA, .int (iI nOf)], aI t kOfA 120 kOf, aI t dOfA 120 dOf, aZ t mOfA 120 mOf, aI t seOA 3 seO, aI t coOA 7 coO]) [5, 6, 7, 8, 9, 10, 11, 19, 20, 21, 22, 23, 24, 25, 0, 1, 2, 3, 4, 12, 13, 14, 15, 16, 17, 18, 26, 27] 28 rfl (by decide +kernel) rfl) rfl rfl (met_X1_becomeCopyOf l D t hSj hSjs liSjA quSjA kSjsA dSjsA mSjsA hOj hOjs liOjA quOjA kOjsA dOjsA mOjsA nlSj ncSj nwSj ruSj nSjs kSjs dSjs mSjs liSj quSj nlOj ncOj nwOj ruOj nOjs kOjs dOjs mOjs liOj quOj _ hv) rfl gX2_becomeCopyOf_X1_becomeCopyOf rfl ⟨rfl, rfl⟩ ok_X1_becomeCopyOf (by decide) (Nat.le_of_ble_eq_true rfl) dX2_becomeCopyOf_19 (by decide) (fun u9 hv => ?_)
  obtain ⟨nlSj_2, ncSj_2, nwSj_2, ruSj_2, nSjs_2, kSjs_2, dSjs_2, mSjs_2, liSj_2, quSj_2⟩ := u9
  try dsimp only at hv
  refine V_perm (ws1 := [oB hS 2 [.ref hSf, .ref hSj, .ref seSA, .ref coSA], oB hSf 3 [.ref kSfA, .ref dSfA, .ref mSfA, .int (iI nSf_1)], aI t kSfA 120 kSf_1, aI t dSfA 120 dSf_1, aZ t mSfA 120 mSf_1, oB hSj 1 [.ref hSjs, .ref liSjA, .int (iI nlSj_2), .int (iI ncSj_2), .ref quSjA, .int (iI nwSj_2), .int (iI ruSj_2)], oB hSjs 3 [.ref kSjsA, .ref dSjsA, .ref mSjsA, .int (iI nSjs_2)], aI t kSjsA 120 kSjs_2, aI t dSjsA 120 dSjs_2, aZ t mSjsA 120 mSjs_2, aI t liSjA 120 liSj_2, aI t quSjA 30 quSj_2, aI t seSA 3 seS, aI t coSA 7 coS, oB hO 2 [.ref hOf, .ref hOj, .ref seOA, .ref coOA], oB hOf 3 [.ref kOfA, .ref dOfA, .ref mOfA, .int (iI nOf)], aI t kOfA 120 kOf, aI t dOfA 120 dOf, aZ t mOfA 120 mOf, oB hOj 1 [.ref hOjs, .ref liOjA, .int (iI nlOj), .int (iI ncOj), .ref quOjA, .int (iI nwOj), .int (iI ruOj)], oB hOjs 3 [.ref kOjsA, .ref dOjsA, .ref mOjsA, .int (iI nOjs)], aI t kOjsA 120 kOjs, aI t dOjsA 120 dOjs, aZ t mOjsA 120 mOjs, aI t liOjA 120 liOj, aI t quOjA 30 quOj, aI t seOA 3 seO, aI t coOA 7 coO]) (pmI (ws := [oB hSj 1 [.ref hSjs, .ref liSjA, .int (iI nlSj_2), .int (iI ncSj_2), .ref quSjA, .int (iI nwSj_2), .int (iI ruSj_2)], oB hSjs 3 [.ref kSjsA, .ref dSjsA, .ref mSjsA, .int (iI nSjs_2)], aI t kSjsA 120 kSjs_2, aI t dSjsA 120 dSjs_2, aZ t mSjsA 120 mSjs_2, aI t liSjA 120 liSj_2, aI t quSjA 30 quSj_2, oB hOj 1 [.ref hOjs, .ref liOjA, .int (iI nlOj), .int (iI ncOj), .ref quOjA, .int (iI nwOj), .int (iI ruOj)], oB hOjs 3 [.ref kOjsA, .ref dOjsA, .ref mOjsA, .int (iI nOjs)], aI t kOjsA 120 kOjs, aI t dOjsA 120 dOjs, aZ t mOjsA 120 mOjs, aI t liOjA 120 liOj, aI t quOjA 30 quOj] ++ [oB hS 2 [.ref hSf, .ref hSj, .ref seSA, .ref coSA], oB hSf 3 [.ref kSfA, .ref dSfA, .ref mSfA, .int (iI nSf_1)], aI t kSfA 120 kSf_1, aI t dSfA 120 dSf_1, aZ t mSfA 120 mSf_1, aI t seSA 3 seS, aI t coSA 7 coS, oB hO 2 [.ref hOf, .ref hOj, .ref seOA, .ref coOA], oB hOf 3 [.ref kOfA, .ref dOfA, .ref mOfA, .int (iI nOf)], aI t kOfA 120 kOf, aI t dOfA 120 dOf, aZ t mOfA 120 mOf, aI t seOA 3 seO, aI t coOA 7 coO]) (ws1 := [oB hS 2 [.ref hSf, .ref hSj, .ref seSA, .ref coSA], oB hSf 3 [.ref kSfA, .ref dSfA, .ref mSfA, .int (iI nSf_1)], aI t kSfA 120 kSf_1, aI t dSfA 120 dSf_1, aZ t mSfA 120 mSf_1, oB hSj 1 [.ref hSjs, .ref liSjA, .int (iI nlSj_2), .int (iI ncSj_2), .ref quSjA, .int (iI nwSj_2), .int (iI ruSj_2)], oB hSjs 3 [.ref kSjsA, .ref dSjsA, .ref mSjsA, .int (iI nSjs_2)], aI t kSjsA 120 kSjs_2, aI t dSjsA 120 dSjs_2, aZ t mSjsA 120 mSjs_2, aI t liSjA 120 liSj_2, aI t quSjA 30 quSj_2, aI t seSA 3 seS, aI t coSA 7 coS, oB hO 2 [.ref hOf, .ref hOj, .ref seOA, .ref coOA], oB hOf 3 [.ref kOfA, .ref dOfA, .ref mOfA, .int (iI nOf)], aI t kOfA 120 kOf, aI t dOfA 120 dOf, aZ t mOfA 120 mOf, oB hOj 1 [.ref hOjs, .ref liOjA, .int (iI nlOj), .int (iI ncOj), .ref quOjA, .int (iI nwOj), .int (iI ruOj)], oB hOjs 3 [.ref kOjsA, .ref dOjsA, .ref mOjsA, .int (iI nOjs)], aI t kOjsA 120 kOjs, aI t dOjsA 120 dOjs, aZ t mOjsA 120 mOjs, aI t liOjA 120 liOj, aI t quOjA 30 quOj, aI t seOA 3 seO, aI t coOA 7 coO]) [14, 15, 16, 17, 18, 0, 1, 2, 3, 4, 5, 6, 19, 20, 21, 22, 23, 24, 25, 7, 8, 9, 10, 11, 12, 13, 26, 27] 28 rfl (by decide +kernel) rfl) ?_
  refine V_aload_n hc dX2_becomeCopyOf_22 1 rfl ?_
  refine V_get (C := RX2) (T := TX2) (N := 4) hc i_X2_becomeCopyOf_2 14 rfl rfl 2 (by decide) m_X2_becomeCopyOf_34 rfl dX2_becomeCopyOf_23 ?_
  refine V_iconst hc dX2_becomeCopyOf_26 ?_
  refine V_aload_n hc dX2_becomeCopyOf_27 0 rfl ?_
  refine V_get (C := RX2) (T := TX2) (N := 4) hc i_X2_becomeCopyOf_2 0 rfl rfl 2 (by decide) m_X2_becomeCopyOf_34 rfl dX2_becomeCopyOf_28 ?_
  refine V_iconst hc dX2_becomeCopyOf_31 ?_
  refine V_iconst hc dX2_becomeCopyOf_32 ?_
  refine V_copyi hc m_X2_becomeCopyOf_ac47 m_X2_becomeCopyOf_acn m_X2_becomeCopyOf_acs m_X2_becomeCopyOf_aci 26 12 rfl rfl (by decide) (by decide) hv (by decide) (Nat.le_of_ble_eq_true rfl) dX2_becomeCopyOf_33 [oB hS 2 [.ref hSf, .ref hSj, .ref seSA, .ref coSA], oB hSf 3 [.ref kSfA, .ref dSfA, .ref mSfA, .int (iI nSf_1)], aI t kSfA 120 kSf_1, aI t dSfA 120 dSf_1, aZ t mSfA 120 mSf_1, oB hSj 1 [.ref hSjs, .ref liSjA, .int (iI nlSj_2), .int (iI ncSj_2), .ref quSjA, .int (iI nwSj_2), .int (iI ruSj_2)], oB hSjs 3 [.ref kSjsA, .ref dSjsA, .ref mSjsA, .int (iI nSjs_2)], aI t kSjsA 120 kSjs_2, aI t dSjsA 120 dSjs_2, aZ t mSjsA 120 mSjs_2, aI t liSjA 120 liSj_2, aI t quSjA 30 quSj_2, aI t seSA 3 (cpI seO seS 0 0 3), aI t coSA 7 coS, oB hO 2 [.ref hOf, .ref hOj, .ref seOA, .ref coOA], oB hOf 3 [.ref kOfA, .ref dOfA, .ref mOfA, .int (iI nOf)], aI t kOfA 120 kOf, aI t dOfA 120 dOf, aZ t mOfA 120 mOf, oB hOj 1 [.ref hOjs, .ref liOjA, .int (iI nlOj), .int (iI ncOj), .ref quOjA, .int (iI nwOj), .int (iI ruOj)], oB hOjs 3 [.ref kOjsA, .ref dOjsA, .ref mOjsA, .int (iI nOjs)], aI t kOjsA 120 kOjs, aI t dOjsA 120 dOjs, aZ t mOjsA 120 mOjs, aI t liOjA 120 liOj, aI t quOjA 30 quOj, aI t seOA 3 seO, aI t coOA 7 coO] rfl (fun hv => ?_)
  refine V_aload_n hc dX2_becomeCopyOf_36 1 rfl ?_
  refine V_get (C := RX2) (T := TX2) (N := 4) hc i_X2_becomeCopyOf_2 14 rfl rfl 3 (by decide) m_X2_becomeCopyOf_37 rfl dX2_becomeCopyOf_37 ?_
  refine V_iconst hc dX2_becomeCopyOf_40 ?_
  refine V_aload_n hc dX2_becomeCopyOf_41 0 rfl ?_
  refine V_get (C := RX2) (T := TX2) (N := 4) hc i_X2_becomeCopyOf_2 0 rfl rfl 3 (by decide) m_X2_becomeCopyOf_37 rfl dX2_becomeCopyOf_42 ?_
  refine V_iconst hc dX2_becomeCopyOf_45 ?_
  refine V_bipush hc dX2_becomeCopyOf_46 (by decide) ?_
  refine V_copyi hc m_X2_becomeCopyOf_ac47 m_X2_becomeCopyOf_acn m_X2_becomeCopyOf_acs m_X2_becomeCopyOf_aci 27 13 rfl rfl (by decide) (by decide) hv (by decide) (Nat.le_of_ble_eq_true rfl) dX2_becomeCopyOf_48 [oB hS 2 [.ref hSf, .ref hSj, .ref seSA, .ref coSA], oB hSf 3 [.ref kSfA, .ref dSfA, .ref mSfA, .int (iI nSf_1)], aI t kSfA 120 kSf_1, aI t dSfA 120 dSf_1, aZ t mSfA 120 mSf_1, oB hSj 1 [.ref hSjs, .ref liSjA, .int (iI nlSj_2), .int (iI ncSj_2), .ref quSjA, .int (iI nwSj_2), .int (iI ruSj_2)], oB hSjs 3 [.ref kSjsA, .ref dSjsA, .ref mSjsA, .int (iI nSjs_2)], aI t kSjsA 120 kSjs_2, aI t dSjsA 120 dSjs_2, aZ t mSjsA 120 mSjs_2, aI t liSjA 120 liSj_2, aI t quSjA 30 quSj_2, aI t seSA 3 (cpI seO seS 0 0 3), aI t coSA 7 (cpI coO coS 0 0 7), oB hO 2 [.ref hOf, .ref hOj, .ref seOA, .ref coOA], oB hOf 3 [.ref kOfA, .ref dOfA, .ref mOfA, .int (iI nOf)], aI t kOfA 120 kOf, aI t dOfA 120 dOf, aZ t mOfA 120 mOf, oB hOj 1 [.ref hOjs, .ref liOjA, .int (iI nlOj), .int (iI ncOj), .ref quOjA, .int (iI nwOj), .int (iI ruOj)], oB hOjs 3 [.ref kOjsA, .ref dOjsA, .ref mOjsA, .int (iI nOjs)], aI t kOjsA 120 kOjs, aI t dOjsA 120 dOjs, aZ t mOjsA 120 mOjs, aI t liOjA 120 liOj, aI t quOjA 30 quOj, aI t seOA 3 seO, aI t coOA 7 coO] rfl (fun hv => ?_)
  exact V_vret hc hr (nSf_1, kSf_1, dSf_1, mSf_1, nlSj_2, ncSj_2, nwSj_2, ruSj_2, nSjs_2, kSjs_2, dSjs_2, mSjs_2, liSj_2, quSj_2, cpI seO seS 0 0 3, cpI coO coS 0 0 7) hv rfl dX2_becomeCopyOf_51
