/-! the constructors -/
def z0 : Nat → Int := fun _ => 0
def u0 : Nat → Nat → Int := mkU 0 z0 z0 z0 0 0 0 0 0 z0 z0 z0 z0 z0 ta_FIRST_VALUES z0
theorem pmT (s M F : va_W) : (s ++ (M ++ F)).Perm (M ++ (F ++ s)) := by
  rw [← List.append_assoc M F s]
  exact List.perm_append_comm
theorem pmA (M F X : va_W) : ((M ++ F) ++ X).Perm ((M ++ X) ++ F) := by
  rw [List.append_assoc, List.append_assoc]
  exact List.perm_append_comm.append_left M
theorem aq_eq {t : Nat → ClassId} {n : Nat} {f g : Nat → Option Nat} (h : ∀ i, i < n → f i = g i) : vp_cell (t 3) (n, .inr (.inr (.inr (.inr f)))) = vp_cell (t 3) (n, .inr (.inr (.inr (.inr g)))) := by
  rw [vp_cell_q, vp_cell_q]
  unfold arrV
  congr 2
  funext j
  show va_rf (f j.val) = va_rf (g j.val)
  rw [h j.val j.isLt]
theorem pm9e (M c s0 s1 s2 s3 s4 s5 n0 n1 : va_W) : M ++ ((((((((c ++ s0) ++ s1) ++ s2) ++ s3) ++ s4) ++ s5) ++ n0) ++ n1) = (M ++ c) ++ ((s0 ++ (s1 ++ (s2 ++ (s3 ++ (s4 ++ s5))))) ++ (n0 ++ n1)) := by
  simp only [List.append_assoc]
section VRE
variable {p : Program} {l : Launch} {e : Env} {R : Room} {s : State} {m : MethodId} {args : Array Value} {below : List Frame} {meth : Method} {c : Code} {D : va_G} {t : Nat → ClassId} {A : Nat → Prop} {nL : Nat} {cells slots : Nat} {Q : State → Prop} {pc : Nat} {lv : List (Nat × Value)} {st : List Value} {ws : va_W}
theorem V_aqE (q0 : Nat) {a n : Nat} {f : Nat → Option Nat} (g : Nat → Option Nat) (he : ws[q0]? = some (aQ t a n f)) (h : ∀ i, i < n → f i = g i) (ws1 : va_W) (hw : ws.set q0 (aQ t a n g) = ws1) (k : V p l e R s m args below meth c D A nL cells slots Q pc lv st ws1) : V p l e R s m args below meth c D A nL cells slots Q pc lv st ws := by
  intro H locs ls hl hP hD hS
  subst hw
  refine k H locs ls hl (fun j q hj => ?_) (hD.set he) hS
  by_cases hjq : q0 = j
  · subst hjq
    have hlt : q0 < ws.length := (List.getElem?_eq_some_iff.mp he).1
    rw [List.getElem?_set_self hlt] at hj
    cases hj
    have h9 : H[a]? = some (vp_cell (t 3) (n, .inr (.inr (.inr (.inr f))))) := hP q0 _ he
    show H[a]? = some (vp_cell (t 3) (n, .inr (.inr (.inr (.inr g)))))
    rw [h9, aq_eq h]
  · rw [List.getElem?_set_ne hjq] at hj
    exact hP j q hj
end VRE
abbrev rm_X3_init : Room := { frames := 1, cells := 3, slots := 360, locals := 20 }
abbrev rm_X0_init : Room := { frames := 1, cells := 1, slots := 60, locals := 20 }
abbrev rm_X1_init : Room := { frames := 2, cells := 6, slots := 514, locals := 40 }
abbrev rm_X2_init : Room := { frames := 3, cells := 13, slots := 895, locals := 60 }
abbrev rm_X4_init : Room := { frames := 4, cells := 140, slots := 9244, locals := 80 }
theorem df_X0 : ∀ j, j < 2 → defaultValue (tyX0 j) = vp_V [.null, .int (iI 0)] j := fun j hj => match j, hj with | 0, _ => rfl | 1, _ => rfl
theorem df_X1 : ∀ j, j < 7 → defaultValue (tyX1 j) = vp_V [.null, .null, .int (iI 0), .int (iI 0), .null, .int (iI 0), .int (iI 0)] j := fun j hj => match j, hj with | 0, _ => rfl | 1, _ => rfl | 2, _ => rfl | 3, _ => rfl | 4, _ => rfl | 5, _ => rfl | 6, _ => rfl
theorem df_X2 : ∀ j, j < 4 → defaultValue (tyX2 j) = vp_V [.null, .null, .null, .null] j := fun j hj => match j, hj with | 0, _ => rfl | 1, _ => rfl | 2, _ => rfl | 3, _ => rfl
theorem df_X3 : ∀ j, j < 4 → defaultValue (tyX3 j) = vp_V [.null, .null, .null, .int (iI 0)] j := fun j hj => match j, hj with | 0, _ => rfl | 1, _ => rfl | 2, _ => rfl | 3, _ => rfl
theorem df_X4 : ∀ j, j < 9 → defaultValue (tyX4 j) = vp_V [.null, .null, .int (iI 0), .null, .null, .null, .null, .null, .null] j := fun j hj => match j, hj with | 0, _ => rfl | 1, _ => rfl | 2, _ => rfl | 3, _ => rfl | 4, _ => rfl | 5, _ => rfl | 6, _ => rfl | 7, _ => rfl | 8, _ => rfl
abbrev W1_X3_init (t : Nat → ClassId) (h : Nat) (u : Nat × Nat × Nat) : va_W := [oB h 3 [.ref u.1, .ref u.2.1, .ref u.2.2, .int (iI 0)], aI t u.1 120 z0, aI t u.2.1 120 z0, aZ t u.2.2 120 z0]
abbrev po_X3_init (u : Nat × Nat × Nat) : Prop := True
theorem m_X3_init_o1 : Cond.methodLink RX3 3 objectInit ∈ wsX3_init := by decide +kernel
theorem m_X3_init_o2 : Cond.instanceMethod objectInit ∈ wsX3_init := by decide +kernel
theorem m_X3_init_acint : Cond.arrayClass .int ∈ wsX3_init := by decide +kernel
theorem m_X3_init_f9 : Cond.fieldLink RX3 9 "BackgroundRebuild$Tree" "keys" "[I" ∈ wsX3_init := by decide +kernel
theorem m_X3_init_f15 : Cond.fieldLink RX3 15 "BackgroundRebuild$Tree" "depths" "[I" ∈ wsX3_init := by decide +kernel
theorem m_X3_init_acboolean : Cond.arrayClass .boolean ∈ wsX3_init := by decide +kernel
theorem m_X3_init_f18 : Cond.fieldLink RX3 18 "BackgroundRebuild$Tree" "marks" "[Z" ∈ wsX3_init := by decide +kernel
theorem i_X3_init : ∀ w ∈ u_ws RX3 TX3 4, w ∈ wsX3_init := by decide +kernel
theorem ok_X3_init : yX3_init.cls = RX3 ∧ yX3_init.name = "<init>" ∧ yX3_init.cls ≠ "java/lang/invoke/MethodHandle" ∧ yX3_init.cls ≠ "java/lang/invoke/VarHandle" ∧ (parseMethodDescriptor yX3_init.desc).map (fun d => d.parameters.length) = some 0 := by decide +kernel
set_option maxHeartbeats 4000000 in
set_option maxRecDepth 100000 in
theorem met_X3_init (l : Launch) (D : va_G) (t : Nat → ClassId) (h : Nat) : MC l D t yX3_init wsX3_init rm_X3_init [.ref h] [oB h 3 [.null, .null, .null, .int (iI 0)]] (W1_X3_init t h) (po_X3_init) 3 360 := by
  refine M_ofc (cc := cX3_init) (nL := 1) (by decide) rfl rfl (Nat.le_of_ble_eq_true rfl) ?_
  intro p e s m args below meth c A hc hF hnm hr
  refine V_lv [0] [(0, .ref h)] rfl ?_
  refine V_aload_n hc dX3_init_0 0 rfl ?_
  refine V_objInit hc m_X3_init_o1 m_X3_init_o2 (List.mem_of_getElem? (i := 3) rfl) dX3_init_1 (Nat.le_of_ble_eq_true rfl) (Nat.le_of_ble_eq_true rfl) ?_
  refine V_aload_n hc dX3_init_4 0 rfl ?_
  refine V_bipush hc dX3_init_5 rfl ?_
  refine V_newi (n := 120) hc m_X3_init_acint (Nat.le_of_ble_eq_true rfl) dX3_init_7 ⟨Nat.le_of_ble_eq_true rfl, Nat.le_of_ble_eq_true rfl⟩ (fun q0 => ?_)
  refine V_weq (ws1 := [oB h 3 [.null, .null, .null, .int (iI 0)], aI t q0 120 z0]) rfl ?_
  refine V_putF (C := RX3) (T := TX3) (N := 4) hc hnm i_X3_init 0 rfl rfl 0 (Nat.le_of_ble_eq_true rfl) m_X3_init_f9 tyX3 tyX3_ok nmX3 rfl rfl rfl rfl rfl (Nat.le_of_ble_eq_true rfl) dX3_init_9 ([oB h 3 [.ref q0, .null, .null, .int (iI 0)], aI t q0 120 z0]) rfl ?_
  refine V_aload_n hc dX3_init_12 0 rfl ?_
  refine V_bipush hc dX3_init_13 rfl ?_
  refine V_newi (n := 120) hc m_X3_init_acint (Nat.le_of_ble_eq_true rfl) dX3_init_15 ⟨Nat.le_of_ble_eq_true rfl, Nat.le_of_ble_eq_true rfl⟩ (fun q1 => ?_)
  refine V_weq (ws1 := [oB h 3 [.ref q0, .null, .null, .int (iI 0)], aI t q0 120 z0, aI t q1 120 z0]) rfl ?_
  refine V_putF (C := RX3) (T := TX3) (N := 4) hc hnm i_X3_init 0 rfl rfl 1 (Nat.le_of_ble_eq_true rfl) m_X3_init_f15 tyX3 tyX3_ok nmX3 rfl rfl rfl rfl rfl (Nat.le_of_ble_eq_true rfl) dX3_init_17 ([oB h 3 [.ref q0, .ref q1, .null, .int (iI 0)], aI t q0 120 z0, aI t q1 120 z0]) rfl ?_
  refine V_aload_n hc dX3_init_20 0 rfl ?_
  refine V_bipush hc dX3_init_21 rfl ?_
  refine V_newz (n := 120) hc m_X3_init_acboolean (Nat.le_of_ble_eq_true rfl) dX3_init_23 ⟨Nat.le_of_ble_eq_true rfl, Nat.le_of_ble_eq_true rfl⟩ (fun q2 => ?_)
  refine V_weq (ws1 := [oB h 3 [.ref q0, .ref q1, .null, .int (iI 0)], aI t q0 120 z0, aI t q1 120 z0, aZ t q2 120 z0]) rfl ?_
  refine V_putF (C := RX3) (T := TX3) (N := 4) hc hnm i_X3_init 0 rfl rfl 2 (Nat.le_of_ble_eq_true rfl) m_X3_init_f18 tyX3 tyX3_ok nmX3 rfl rfl rfl rfl rfl (Nat.le_of_ble_eq_true rfl) dX3_init_25 ([oB h 3 [.ref q0, .ref q1, .ref q2, .int (iI 0)], aI t q0 120 z0, aI t q1 120 z0, aZ t q2 120 z0]) rfl ?_
  exact V_vret hc hr (q0, q1, q2) trivial rfl dX3_init_28
abbrev W1_X0_init (t : Nat → ClassId) (h : Nat) (u : Nat) : va_W := [oB h 0 [.ref u, .int (iI 0)], aC t u 60 z0]
abbrev po_X0_init (u : Nat) : Prop := True
theorem m_X0_init_o1 : Cond.methodLink RX0 3 objectInit ∈ wsX0_init := by decide +kernel
theorem m_X0_init_o2 : Cond.instanceMethod objectInit ∈ wsX0_init := by decide +kernel
theorem m_X0_init_acchar : Cond.arrayClass .char ∈ wsX0_init := by decide +kernel
theorem m_X0_init_f9 : Cond.fieldLink RX0 9 "BackgroundRebuild$ActText" "characters" "[C" ∈ wsX0_init := by decide +kernel
theorem i_X0_init : ∀ w ∈ u_ws RX0 TX0 2, w ∈ wsX0_init := by decide +kernel
theorem ok_X0_init : yX0_init.cls = RX0 ∧ yX0_init.name = "<init>" ∧ yX0_init.cls ≠ "java/lang/invoke/MethodHandle" ∧ yX0_init.cls ≠ "java/lang/invoke/VarHandle" ∧ (parseMethodDescriptor yX0_init.desc).map (fun d => d.parameters.length) = some 0 := by decide +kernel
set_option maxHeartbeats 4000000 in
set_option maxRecDepth 100000 in
theorem met_X0_init (l : Launch) (D : va_G) (t : Nat → ClassId) (h : Nat) : MC l D t yX0_init wsX0_init rm_X0_init [.ref h] [oB h 0 [.null, .int (iI 0)]] (W1_X0_init t h) (po_X0_init) 1 60 := by
  refine M_ofc (cc := cX0_init) (nL := 1) (by decide) rfl rfl (Nat.le_of_ble_eq_true rfl) ?_
  intro p e s m args below meth c A hc hF hnm hr
  refine V_lv [0] [(0, .ref h)] rfl ?_
  refine V_aload_n hc dX0_init_0 0 rfl ?_
  refine V_objInit hc m_X0_init_o1 m_X0_init_o2 (List.mem_of_getElem? (i := 3) rfl) dX0_init_1 (Nat.le_of_ble_eq_true rfl) (Nat.le_of_ble_eq_true rfl) ?_
  refine V_aload_n hc dX0_init_4 0 rfl ?_
  refine V_bipush hc dX0_init_5 rfl ?_
  refine V_newc (n := 60) hc m_X0_init_acchar (Nat.le_of_ble_eq_true rfl) dX0_init_7 ⟨Nat.le_of_ble_eq_true rfl, Nat.le_of_ble_eq_true rfl⟩ (fun q0 => ?_)
  refine V_weq (ws1 := [oB h 0 [.null, .int (iI 0)], aC t q0 60 z0]) rfl ?_
  refine V_putF (C := RX0) (T := TX0) (N := 2) hc hnm i_X0_init 0 rfl rfl 0 (Nat.le_of_ble_eq_true rfl) m_X0_init_f9 tyX0 tyX0_ok nmX0 rfl rfl rfl rfl rfl (Nat.le_of_ble_eq_true rfl) dX0_init_9 ([oB h 0 [.ref q0, .int (iI 0)], aC t q0 60 z0]) rfl ?_
  exact V_vret hc hr q0 trivial rfl dX0_init_12
abbrev W1_X1_init (t : Nat → ClassId) (h : Nat) (u : Nat → Nat) : va_W := [oB h 1 [.ref (u 0), .ref (u 4), .int (iI 0), .int (iI 0), .ref (u 5), .int (iI 0), .int (iI 0)], oB (u 0) 3 [.ref (u 1), .ref (u 2), .ref (u 3), .int (iI 0)], aI t (u 1) 120 z0, aI t (u 2) 120 z0, aZ t (u 3) 120 z0, aI t (u 4) 120 z0, aI t (u 5) 30 z0]
abbrev po_X1_init (u : Nat → Nat) : Prop := True
theorem m_X1_init_o1 : Cond.methodLink RX1 3 objectInit ∈ wsX1_init := by decide +kernel
theorem m_X1_init_o2 : Cond.instanceMethod objectInit ∈ wsX1_init := by decide +kernel
theorem m_X1_init_cl3 : Cond.classLink RX1 9 RX3 ∈ wsX1_init := by decide +kernel
theorem m_X1_init_in3 : Cond.instantiable RX3 4 ∈ wsX1_init := by decide +kernel
theorem m_X1_init_it3 : Cond.initialized RX3 ∈ wsX1_init := by decide +kernel
theorem m_X1_init_im3 : Cond.instanceMethod yX3_init ∈ wsX1_init := by decide +kernel
theorem i3_X1_init : ∀ w ∈ u_ws RX3 TX3 4, w ∈ wsX1_init := by decide +kernel
theorem m_X1_init_f12 : Cond.fieldLink RX1 12 "BackgroundRebuild$Rebuild" "secondTree" "LBackgroundRebuild$Tree;" ∈ wsX1_init := by decide +kernel
theorem m_X1_init_acint : Cond.arrayClass .int ∈ wsX1_init := by decide +kernel
theorem m_X1_init_f18 : Cond.fieldLink RX1 18 "BackgroundRebuild$Rebuild" "list" "[I" ∈ wsX1_init := by decide +kernel
theorem m_X1_init_f22 : Cond.fieldLink RX1 22 "BackgroundRebuild$Rebuild" "queue" "[I" ∈ wsX1_init := by decide +kernel
theorem i_X1_init : ∀ w ∈ u_ws RX1 TX1 7, w ∈ wsX1_init := by decide +kernel
theorem ok_X1_init : yX1_init.cls = RX1 ∧ yX1_init.name = "<init>" ∧ yX1_init.cls ≠ "java/lang/invoke/MethodHandle" ∧ yX1_init.cls ≠ "java/lang/invoke/VarHandle" ∧ (parseMethodDescriptor yX1_init.desc).map (fun d => d.parameters.length) = some 0 := by decide +kernel
set_option maxHeartbeats 4000000 in
set_option maxRecDepth 100000 in
theorem met_X1_init (l : Launch) (D : va_G) (t : Nat → ClassId) (h : Nat) : MC l D t yX1_init wsX1_init rm_X1_init [.ref h] [oB h 1 [.null, .null, .int (iI 0), .int (iI 0), .null, .int (iI 0), .int (iI 0)]] (W1_X1_init t h) (po_X1_init) 6 514 := by
  refine M_ofc (cc := cX1_init) (nL := 1) (by decide) rfl rfl (Nat.le_of_ble_eq_true rfl) ?_
  intro p e s m args below meth c A hc hF hnm hr
  refine V_lv [0] [(0, .ref h)] rfl ?_
  refine V_aload_n hc dX1_init_0 0 rfl ?_
  refine V_objInit hc m_X1_init_o1 m_X1_init_o2 (List.mem_of_getElem? (i := 3) rfl) dX1_init_1 (Nat.le_of_ble_eq_true rfl) (Nat.le_of_ble_eq_true rfl) ?_
  refine V_aload_n hc dX1_init_4 0 rfl ?_
  refine V_newObj (C := RX3) (T := TX3) (N := 4) (mc := 3) (ms := 360) hc hF [.null, .null, .null, .int (iI 0)] rfl i3_X1_init tyX3 tyX3_ok m_X1_init_cl3 m_X1_init_in3 m_X1_init_it3 df_X3 (fun q9 => met_X3_init l D t q9) (by decide +kernel) gX1_init_X3_init_n11 rfl ⟨rfl, rfl⟩ ok_X3_init m_X1_init_im3 ⟨Nat.le_of_ble_eq_true rfl, Nat.le_of_ble_eq_true rfl⟩ (Nat.le_of_ble_eq_true rfl) dX1_init_5 dX1_init_8 dX1_init_9 ⟨Nat.le_of_ble_eq_true rfl, Nat.le_of_ble_eq_true rfl⟩ (fun q u hp9 => ?_)
  refine V_weq (ws1 := [oB q 3 [.ref u.1, .ref u.2.1, .ref u.2.2, .int (iI 0)], aI t u.1 120 z0, aI t u.2.1 120 z0, aZ t u.2.2 120 z0, oB h 1 [.null, .null, .int (iI 0), .int (iI 0), .null, .int (iI 0), .int (iI 0)]]) rfl ?_
  refine V_putF (C := RX1) (T := TX1) (N := 7) hc hnm i_X1_init 4 rfl rfl 0 (Nat.le_of_ble_eq_true rfl) m_X1_init_f12 tyX1 tyX1_ok nmX1 rfl rfl rfl rfl rfl (Nat.le_of_ble_eq_true rfl) dX1_init_12 ([oB q 3 [.ref u.1, .ref u.2.1, .ref u.2.2, .int (iI 0)], aI t u.1 120 z0, aI t u.2.1 120 z0, aZ t u.2.2 120 z0, oB h 1 [.ref q, .null, .int (iI 0), .int (iI 0), .null, .int (iI 0), .int (iI 0)]]) rfl ?_
  refine V_aload_n hc dX1_init_15 0 rfl ?_
  refine V_bipush hc dX1_init_16 rfl ?_
  refine V_newi (n := 120) hc m_X1_init_acint (Nat.le_of_ble_eq_true rfl) dX1_init_18 ⟨Nat.le_of_ble_eq_true rfl, Nat.le_of_ble_eq_true rfl⟩ (fun q4 => ?_)
  refine V_weq (ws1 := [oB q 3 [.ref u.1, .ref u.2.1, .ref u.2.2, .int (iI 0)], aI t u.1 120 z0, aI t u.2.1 120 z0, aZ t u.2.2 120 z0, oB h 1 [.ref q, .null, .int (iI 0), .int (iI 0), .null, .int (iI 0), .int (iI 0)], aI t q4 120 z0]) rfl ?_
  refine V_putF (C := RX1) (T := TX1) (N := 7) hc hnm i_X1_init 4 rfl rfl 1 (Nat.le_of_ble_eq_true rfl) m_X1_init_f18 tyX1 tyX1_ok nmX1 rfl rfl rfl rfl rfl (Nat.le_of_ble_eq_true rfl) dX1_init_20 ([oB q 3 [.ref u.1, .ref u.2.1, .ref u.2.2, .int (iI 0)], aI t u.1 120 z0, aI t u.2.1 120 z0, aZ t u.2.2 120 z0, oB h 1 [.ref q, .ref q4, .int (iI 0), .int (iI 0), .null, .int (iI 0), .int (iI 0)], aI t q4 120 z0]) rfl ?_
  refine V_aload_n hc dX1_init_23 0 rfl ?_
  refine V_bipush hc dX1_init_24 rfl ?_
  refine V_newi (n := 30) hc m_X1_init_acint (Nat.le_of_ble_eq_true rfl) dX1_init_26 ⟨Nat.le_of_ble_eq_true rfl, Nat.le_of_ble_eq_true rfl⟩ (fun q5 => ?_)
  refine V_weq (ws1 := [oB q 3 [.ref u.1, .ref u.2.1, .ref u.2.2, .int (iI 0)], aI t u.1 120 z0, aI t u.2.1 120 z0, aZ t u.2.2 120 z0, oB h 1 [.ref q, .ref q4, .int (iI 0), .int (iI 0), .null, .int (iI 0), .int (iI 0)], aI t q4 120 z0, aI t q5 30 z0]) rfl ?_
  refine V_putF (C := RX1) (T := TX1) (N := 7) hc hnm i_X1_init 4 rfl rfl 4 (Nat.le_of_ble_eq_true rfl) m_X1_init_f22 tyX1 tyX1_ok nmX1 rfl rfl rfl rfl rfl (Nat.le_of_ble_eq_true rfl) dX1_init_28 ([oB q 3 [.ref u.1, .ref u.2.1, .ref u.2.2, .int (iI 0)], aI t u.1 120 z0, aI t u.2.1 120 z0, aZ t u.2.2 120 z0, oB h 1 [.ref q, .ref q4, .int (iI 0), .int (iI 0), .ref q5, .int (iI 0), .int (iI 0)], aI t q4 120 z0, aI t q5 30 z0]) rfl ?_
  refine V_pm (ws1 := [oB h 1 [.ref q, .ref q4, .int (iI 0), .int (iI 0), .ref q5, .int (iI 0), .int (iI 0)], oB q 3 [.ref u.1, .ref u.2.1, .ref u.2.2, .int (iI 0)], aI t u.1 120 z0, aI t u.2.1 120 z0, aZ t u.2.2 120 z0, aI t q4 120 z0, aI t q5 30 z0]) (pmI [4, 0, 1, 2, 3, 5, 6] 7 rfl (by decide) rfl) ?_
  exact V_vret hc hr (fun i => match i with | 0 => q | 1 => u.1 | 2 => u.2.1 | 3 => u.2.2 | 4 => q4 | _ => q5) trivial rfl dX1_init_31
abbrev W1_X2_init (t : Nat → ClassId) (h : Nat) (a : Nat → Nat) : va_W := stW t (fun i => match i with | 0 => h | i + 1 => a i) u0
abbrev po_X2_init (a : Nat → Nat) : Prop := True
theorem m_X2_init_o1 : Cond.methodLink RX2 3 objectInit ∈ wsX2_init := by decide +kernel
theorem m_X2_init_o2 : Cond.instanceMethod objectInit ∈ wsX2_init := by decide +kernel
theorem m_X2_init_cl3 : Cond.classLink RX2 9 RX3 ∈ wsX2_init := by decide +kernel
theorem m_X2_init_in3 : Cond.instantiable RX3 4 ∈ wsX2_init := by decide +kernel
theorem m_X2_init_it3 : Cond.initialized RX3 ∈ wsX2_init := by decide +kernel
theorem m_X2_init_im3 : Cond.instanceMethod yX3_init ∈ wsX2_init := by decide +kernel
theorem i3_X2_init : ∀ w ∈ u_ws RX3 TX3 4, w ∈ wsX2_init := by decide +kernel
theorem m_X2_init_f12 : Cond.fieldLink RX2 12 "BackgroundRebuild$State" "firstTree" "LBackgroundRebuild$Tree;" ∈ wsX2_init := by decide +kernel
theorem m_X2_init_cl1 : Cond.classLink RX2 18 RX1 ∈ wsX2_init := by decide +kernel
theorem m_X2_init_in1 : Cond.instantiable RX1 7 ∈ wsX2_init := by decide +kernel
theorem m_X2_init_it1 : Cond.initialized RX1 ∈ wsX2_init := by decide +kernel
theorem m_X2_init_im1 : Cond.instanceMethod yX1_init ∈ wsX2_init := by decide +kernel
theorem i1_X2_init : ∀ w ∈ u_ws RX1 TX1 7, w ∈ wsX2_init := by decide +kernel
theorem m_X2_init_f21 : Cond.fieldLink RX2 21 "BackgroundRebuild$State" "job" "LBackgroundRebuild$Rebuild;" ∈ wsX2_init := by decide +kernel
theorem m_X2_init_k1 : Cond.methodLink RX2 29 ⟨"[I", "clone", "()Ljava/lang/Object;"⟩ ∈ wsX2_init := by decide +kernel
theorem m_X2_init_k2 : Cond.sameMethod "[I" "java/lang/Object" "clone" "()Ljava/lang/Object;" ∈ wsX2_init := by decide +kernel
theorem m_X2_init_k3 : Cond.native ⟨"java/lang/Object", "clone", "()Ljava/lang/Object;"⟩ ∈ wsX2_init := by decide +kernel
theorem m_X2_init_k4 : Cond.instanceMethod ⟨"java/lang/Object", "clone", "()Ljava/lang/Object;"⟩ ∈ wsX2_init := by decide +kernel
theorem m_X2_init_k5 : Cond.selects "[I" ⟨"[I", "clone", "()Ljava/lang/Object;"⟩ ⟨"java/lang/Object", "clone", "()Ljava/lang/Object;"⟩ ∈ wsX2_init := by decide +kernel
theorem m_X2_init_k6 : Cond.classLink RX2 30 "[I" ∈ wsX2_init := by decide +kernel
theorem m_X2_init_f34 : Cond.fieldLink RX2 34 "BackgroundRebuild$State" "settings" "[I" ∈ wsX2_init := by decide +kernel
theorem m_X2_init_acint : Cond.arrayClass .int ∈ wsX2_init := by decide +kernel
theorem m_X2_init_f37 : Cond.fieldLink RX2 37 "BackgroundRebuild$State" "counts" "[I" ∈ wsX2_init := by decide +kernel
theorem i_X2_init : ∀ w ∈ u_ws RX2 TX2 4, w ∈ wsX2_init := by decide +kernel
theorem ok_X2_init : yX2_init.cls = RX2 ∧ yX2_init.name = "<init>" ∧ yX2_init.cls ≠ "java/lang/invoke/MethodHandle" ∧ yX2_init.cls ≠ "java/lang/invoke/VarHandle" ∧ (parseMethodDescriptor yX2_init.desc).map (fun d => d.parameters.length) = some 0 := by decide +kernel
set_option maxHeartbeats 4000000 in
set_option maxRecDepth 100000 in
theorem met_X2_init (l : Launch) (D : va_G) (t : Nat → ClassId) (h : Nat) : MC l D t yX2_init wsX2_init rm_X2_init [.ref h] [oB h 2 [.null, .null, .null, .null]] (W1_X2_init t h) (po_X2_init) 13 895 := by
  refine M_ofc (cc := cX2_init) (nL := 1) (by decide) rfl rfl (Nat.le_of_ble_eq_true rfl) ?_
  intro p e s m args below meth c A hc hF hnm hr
  refine V_lv [0] [(0, .ref h)] rfl ?_
  refine V_aload_n hc dX2_init_0 0 rfl ?_
  refine V_objInit hc m_X2_init_o1 m_X2_init_o2 (List.mem_of_getElem? (i := 3) rfl) dX2_init_1 (Nat.le_of_ble_eq_true rfl) (Nat.le_of_ble_eq_true rfl) ?_
  refine V_aload_n hc dX2_init_4 0 rfl ?_
  refine V_newObj (C := RX3) (T := TX3) (N := 4) (mc := 3) (ms := 360) hc hF [.null, .null, .null, .int (iI 0)] rfl i3_X2_init tyX3 tyX3_ok m_X2_init_cl3 m_X2_init_in3 m_X2_init_it3 df_X3 (fun q9 => met_X3_init l D t q9) (by decide +kernel) gX2_init_X3_init_n11 rfl ⟨rfl, rfl⟩ ok_X3_init m_X2_init_im3 ⟨Nat.le_of_ble_eq_true rfl, Nat.le_of_ble_eq_true rfl⟩ (Nat.le_of_ble_eq_true rfl) dX2_init_5 dX2_init_8 dX2_init_9 ⟨Nat.le_of_ble_eq_true rfl, Nat.le_of_ble_eq_true rfl⟩ (fun q1 u hp9 => ?_)
  refine V_weq (ws1 := [oB q1 3 [.ref u.1, .ref u.2.1, .ref u.2.2, .int (iI 0)], aI t u.1 120 z0, aI t u.2.1 120 z0, aZ t u.2.2 120 z0, oB h 2 [.null, .null, .null, .null]]) rfl ?_
  refine V_putF (C := RX2) (T := TX2) (N := 4) hc hnm i_X2_init 4 rfl rfl 0 (Nat.le_of_ble_eq_true rfl) m_X2_init_f12 tyX2 tyX2_ok nmX2 rfl rfl rfl rfl rfl (Nat.le_of_ble_eq_true rfl) dX2_init_12 ([oB q1 3 [.ref u.1, .ref u.2.1, .ref u.2.2, .int (iI 0)], aI t u.1 120 z0, aI t u.2.1 120 z0, aZ t u.2.2 120 z0, oB h 2 [.ref q1, .null, .null, .null]]) rfl ?_
  refine V_aload_n hc dX2_init_15 0 rfl ?_
  refine V_newObj (C := RX1) (T := TX1) (N := 7) (mc := 6) (ms := 514) hc hF [.null, .null, .int (iI 0), .int (iI 0), .null, .int (iI 0), .int (iI 0)] rfl i1_X2_init tyX1 tyX1_ok m_X2_init_cl1 m_X2_init_in1 m_X2_init_it1 df_X1 (fun q9 => met_X1_init l D t q9) (by decide +kernel) gX2_init_X1_init_n20 rfl ⟨rfl, rfl⟩ ok_X1_init m_X2_init_im1 ⟨Nat.le_of_ble_eq_true rfl, Nat.le_of_ble_eq_true rfl⟩ (Nat.le_of_ble_eq_true rfl) dX2_init_16 dX2_init_19 dX2_init_20 ⟨Nat.le_of_ble_eq_true rfl, Nat.le_of_ble_eq_true rfl⟩ (fun q2 v hp9 => ?_)
  refine V_weq (ws1 := [oB q2 1 [.ref (v 0), .ref (v 4), .int (iI 0), .int (iI 0), .ref (v 5), .int (iI 0), .int (iI 0)], oB (v 0) 3 [.ref (v 1), .ref (v 2), .ref (v 3), .int (iI 0)], aI t (v 1) 120 z0, aI t (v 2) 120 z0, aZ t (v 3) 120 z0, aI t (v 4) 120 z0, aI t (v 5) 30 z0, oB q1 3 [.ref u.1, .ref u.2.1, .ref u.2.2, .int (iI 0)], aI t u.1 120 z0, aI t u.2.1 120 z0, aZ t u.2.2 120 z0, oB h 2 [.ref q1, .null, .null, .null]]) rfl ?_
  refine V_putF (C := RX2) (T := TX2) (N := 4) hc hnm i_X2_init 11 rfl rfl 1 (Nat.le_of_ble_eq_true rfl) m_X2_init_f21 tyX2 tyX2_ok nmX2 rfl rfl rfl rfl rfl (Nat.le_of_ble_eq_true rfl) dX2_init_23 ([oB q2 1 [.ref (v 0), .ref (v 4), .int (iI 0), .int (iI 0), .ref (v 5), .int (iI 0), .int (iI 0)], oB (v 0) 3 [.ref (v 1), .ref (v 2), .ref (v 3), .int (iI 0)], aI t (v 1) 120 z0, aI t (v 2) 120 z0, aZ t (v 3) 120 z0, aI t (v 4) 120 z0, aI t (v 5) 30 z0, oB q1 3 [.ref u.1, .ref u.2.1, .ref u.2.2, .int (iI 0)], aI t u.1 120 z0, aI t u.2.1 120 z0, aZ t u.2.2 120 z0, oB h 2 [.ref q1, .ref q2, .null, .null]]) rfl ?_
  refine V_aload_n hc dX2_init_26 0 rfl ?_
  refine V_fv hc hF m_X2_init_k1 m_X2_init_k2 m_X2_init_k3 m_X2_init_k4 m_X2_init_k5 m_X2_init_k6 dX2_init_27 dX2_init_30 dX2_init_33 (Nat.le_of_ble_eq_true rfl) (Nat.le_of_ble_eq_true rfl) ⟨Nat.le_of_ble_eq_true rfl, Nat.le_of_ble_eq_true rfl⟩ (fun q3 => ?_)
  refine V_weq (ws1 := [oB q2 1 [.ref (v 0), .ref (v 4), .int (iI 0), .int (iI 0), .ref (v 5), .int (iI 0), .int (iI 0)], oB (v 0) 3 [.ref (v 1), .ref (v 2), .ref (v 3), .int (iI 0)], aI t (v 1) 120 z0, aI t (v 2) 120 z0, aZ t (v 3) 120 z0, aI t (v 4) 120 z0, aI t (v 5) 30 z0, oB q1 3 [.ref u.1, .ref u.2.1, .ref u.2.2, .int (iI 0)], aI t u.1 120 z0, aI t u.2.1 120 z0, aZ t u.2.2 120 z0, oB h 2 [.ref q1, .ref q2, .null, .null], aI t q3 3 ta_FIRST_VALUES]) rfl ?_
  refine V_putF (C := RX2) (T := TX2) (N := 4) hc hnm i_X2_init 11 rfl rfl 2 (Nat.le_of_ble_eq_true rfl) m_X2_init_f34 tyX2 tyX2_ok nmX2 rfl rfl rfl rfl rfl (Nat.le_of_ble_eq_true rfl) dX2_init_36 ([oB q2 1 [.ref (v 0), .ref (v 4), .int (iI 0), .int (iI 0), .ref (v 5), .int (iI 0), .int (iI 0)], oB (v 0) 3 [.ref (v 1), .ref (v 2), .ref (v 3), .int (iI 0)], aI t (v 1) 120 z0, aI t (v 2) 120 z0, aZ t (v 3) 120 z0, aI t (v 4) 120 z0, aI t (v 5) 30 z0, oB q1 3 [.ref u.1, .ref u.2.1, .ref u.2.2, .int (iI 0)], aI t u.1 120 z0, aI t u.2.1 120 z0, aZ t u.2.2 120 z0, oB h 2 [.ref q1, .ref q2, .ref q3, .null], aI t q3 3 ta_FIRST_VALUES]) rfl ?_
  refine V_aload_n hc dX2_init_39 0 rfl ?_
  refine V_bipush hc dX2_init_40 rfl ?_
  refine V_newi (n := 7) hc m_X2_init_acint (Nat.le_of_ble_eq_true rfl) dX2_init_42 ⟨Nat.le_of_ble_eq_true rfl, Nat.le_of_ble_eq_true rfl⟩ (fun q4 => ?_)
  refine V_weq (ws1 := [oB q2 1 [.ref (v 0), .ref (v 4), .int (iI 0), .int (iI 0), .ref (v 5), .int (iI 0), .int (iI 0)], oB (v 0) 3 [.ref (v 1), .ref (v 2), .ref (v 3), .int (iI 0)], aI t (v 1) 120 z0, aI t (v 2) 120 z0, aZ t (v 3) 120 z0, aI t (v 4) 120 z0, aI t (v 5) 30 z0, oB q1 3 [.ref u.1, .ref u.2.1, .ref u.2.2, .int (iI 0)], aI t u.1 120 z0, aI t u.2.1 120 z0, aZ t u.2.2 120 z0, oB h 2 [.ref q1, .ref q2, .ref q3, .null], aI t q3 3 ta_FIRST_VALUES, aI t q4 7 z0]) rfl ?_
  refine V_putF (C := RX2) (T := TX2) (N := 4) hc hnm i_X2_init 11 rfl rfl 3 (Nat.le_of_ble_eq_true rfl) m_X2_init_f37 tyX2 tyX2_ok nmX2 rfl rfl rfl rfl rfl (Nat.le_of_ble_eq_true rfl) dX2_init_44 ([oB q2 1 [.ref (v 0), .ref (v 4), .int (iI 0), .int (iI 0), .ref (v 5), .int (iI 0), .int (iI 0)], oB (v 0) 3 [.ref (v 1), .ref (v 2), .ref (v 3), .int (iI 0)], aI t (v 1) 120 z0, aI t (v 2) 120 z0, aZ t (v 3) 120 z0, aI t (v 4) 120 z0, aI t (v 5) 30 z0, oB q1 3 [.ref u.1, .ref u.2.1, .ref u.2.2, .int (iI 0)], aI t u.1 120 z0, aI t u.2.1 120 z0, aZ t u.2.2 120 z0, oB h 2 [.ref q1, .ref q2, .ref q3, .ref q4], aI t q3 3 ta_FIRST_VALUES, aI t q4 7 z0]) rfl ?_
  refine V_pm (ws1 := [oB h 2 [.ref q1, .ref q2, .ref q3, .ref q4], oB q1 3 [.ref u.1, .ref u.2.1, .ref u.2.2, .int (iI 0)], aI t u.1 120 z0, aI t u.2.1 120 z0, aZ t u.2.2 120 z0, oB q2 1 [.ref (v 0), .ref (v 4), .int (iI 0), .int (iI 0), .ref (v 5), .int (iI 0), .int (iI 0)], oB (v 0) 3 [.ref (v 1), .ref (v 2), .ref (v 3), .int (iI 0)], aI t (v 1) 120 z0, aI t (v 2) 120 z0, aZ t (v 3) 120 z0, aI t (v 4) 120 z0, aI t (v 5) 30 z0, aI t q3 3 ta_FIRST_VALUES, aI t q4 7 z0]) (pmI [11, 7, 8, 9, 10, 0, 1, 2, 3, 4, 5, 6, 12, 13] 14 rfl (by decide) rfl) ?_
  exact V_vret hc hr (fun i => match i with | 0 => q1 | 1 => q2 | 2 => q3 | 3 => q4 | 4 => u.1 | 5 => u.2.1 | 6 => u.2.2 | 7 => v 0 | 8 => v 4 | 9 => v 5 | 10 => v 1 | 11 => v 2 | _ => v 3) trivial rfl dX2_init_47
def sA (h : Nat) (a : Nat → Nat) : Nat → Nat := fun i => match i with | 0 => h | i + 1 => a i
abbrev W1_X4_init (t : Nat → ClassId) (h : Nat) (u : (Nat → Nat) × (Nat → Nat) × (Nat → Nat → Nat) × (Nat → Nat → Nat)) : va_W := ([oB h 4 [.ref (u.2.1 0), .ref (u.1 0), .int (iI 0), .ref (u.1 1), .ref (u.1 2), .ref (u.1 3), .ref (u.1 5), .ref (u.1 6), .ref (u.1 7)], aQ t (u.1 0) 6 (svR u.2.2.1), aQ t (u.1 1) 2 (svR u.2.2.2), aZ t (u.1 2) 2 z0, oB (u.1 3) 0 [.ref (u.1 4), .int (iI 0)], aC t (u.1 4) 60 z0, aI t (u.1 5) 60 z0, aZ t (u.1 6) 500 z0, oB (u.1 7) 1 [.ref (u.1 8), .ref (u.1 12), .int (iI 0), .int (iI 0), .ref (u.1 13), .int (iI 0), .int (iI 0)], oB (u.1 8) 3 [.ref (u.1 9), .ref (u.1 10), .ref (u.1 11), .int (iI 0)], aI t (u.1 9) 120 z0, aI t (u.1 10) 120 z0, aZ t (u.1 11) 120 z0, aI t (u.1 12) 120 z0, aI t (u.1 13) 30 z0] ++ stW t u.2.1 u0) ++ (SVW t u.2.2.1 (fun _ => u0) ++ SNW t u.2.2.2 (fun _ => u0))
abbrev po_X4_init (u : (Nat → Nat) × (Nat → Nat) × (Nat → Nat → Nat) × (Nat → Nat → Nat)) : Prop := True
theorem m_X4_init_o1 : Cond.methodLink RX4 1 objectInit ∈ wsX4_init := by decide +kernel
theorem m_X4_init_o2 : Cond.instanceMethod objectInit ∈ wsX4_init := by decide +kernel
theorem m_X4_init_cl2 : Cond.classLink RX4 7 RX2 ∈ wsX4_init := by decide +kernel
theorem m_X4_init_in2 : Cond.instantiable RX2 4 ∈ wsX4_init := by decide +kernel
theorem m_X4_init_it2 : Cond.initialized RX2 ∈ wsX4_init := by decide +kernel
theorem m_X4_init_im2 : Cond.instanceMethod yX2_init ∈ wsX4_init := by decide +kernel
theorem i2_X4_init : ∀ w ∈ u_ws RX2 TX2 4, w ∈ wsX4_init := by decide +kernel
theorem m_X4_init_f10 : Cond.fieldLink RX4 10 "BackgroundRebuild" "state" "LBackgroundRebuild$State;" ∈ wsX4_init := by decide +kernel
theorem m_X4_init_f16 : Cond.fieldLink RX4 16 "BackgroundRebuild" "saved" "[LBackgroundRebuild$State;" ∈ wsX4_init := by decide +kernel
theorem m_X4_init_f20 : Cond.fieldLink RX4 20 "BackgroundRebuild" "snapshots" "[LBackgroundRebuild$State;" ∈ wsX4_init := by decide +kernel
theorem m_X4_init_acboolean : Cond.arrayClass .boolean ∈ wsX4_init := by decide +kernel
theorem m_X4_init_f23 : Cond.fieldLink RX4 23 "BackgroundRebuild" "slotFilled" "[Z" ∈ wsX4_init := by decide +kernel
theorem m_X4_init_cl0 : Cond.classLink RX4 27 RX0 ∈ wsX4_init := by decide +kernel
theorem m_X4_init_in0 : Cond.instantiable RX0 2 ∈ wsX4_init := by decide +kernel
theorem m_X4_init_it0 : Cond.initialized RX0 ∈ wsX4_init := by decide +kernel
theorem m_X4_init_im0 : Cond.instanceMethod yX0_init ∈ wsX4_init := by decide +kernel
theorem i0_X4_init : ∀ w ∈ u_ws RX0 TX0 2, w ∈ wsX4_init := by decide +kernel
theorem m_X4_init_f30 : Cond.fieldLink RX4 30 "BackgroundRebuild" "text" "LBackgroundRebuild$ActText;" ∈ wsX4_init := by decide +kernel
theorem m_X4_init_acint : Cond.arrayClass .int ∈ wsX4_init := by decide +kernel
theorem m_X4_init_f34 : Cond.fieldLink RX4 34 "BackgroundRebuild" "readActs" "[I" ∈ wsX4_init := by decide +kernel
theorem m_X4_init_f38 : Cond.fieldLink RX4 38 "BackgroundRebuild" "presence" "[Z" ∈ wsX4_init := by decide +kernel
theorem m_X4_init_cl1 : Cond.classLink RX4 41 RX1 ∈ wsX4_init := by decide +kernel
theorem m_X4_init_in1 : Cond.instantiable RX1 7 ∈ wsX4_init := by decide +kernel
theorem m_X4_init_it1 : Cond.initialized RX1 ∈ wsX4_init := by decide +kernel
theorem m_X4_init_im1 : Cond.instanceMethod yX1_init ∈ wsX4_init := by decide +kernel
theorem i1_X4_init : ∀ w ∈ u_ws RX1 TX1 7, w ∈ wsX4_init := by decide +kernel
theorem m_X4_init_f44 : Cond.fieldLink RX4 44 "BackgroundRebuild" "trial" "LBackgroundRebuild$Rebuild;" ∈ wsX4_init := by decide +kernel
theorem i_X4_init : ∀ w ∈ u_ws RX4 TX4 9, w ∈ wsX4_init := by decide +kernel
theorem ok_X4_init : yX4_init.cls = RX4 ∧ yX4_init.name = "<init>" ∧ yX4_init.cls ≠ "java/lang/invoke/MethodHandle" ∧ yX4_init.cls ≠ "java/lang/invoke/VarHandle" ∧ (parseMethodDescriptor yX4_init.desc).map (fun d => d.parameters.length) = some 0 := by decide +kernel
set_option maxHeartbeats 4000000 in
set_option maxRecDepth 100000 in
theorem met_X4_init (l : Launch) (D : va_G) (t : Nat → ClassId) (h : Nat) : MC l D t yX4_init wsX4_init rm_X4_init [.ref h] [oB h 4 [.null, .null, .int (iI 0), .null, .null, .null, .null, .null, .null]] (W1_X4_init t h) (po_X4_init) 140 9244 := by
  refine M_ofc (cc := cX4_init) (nL := 2) (by decide) rfl rfl (Nat.le_of_ble_eq_true rfl) ?_
  intro p e s m args below meth c A hc hF hnm hr
  refine V_lv [0] [(0, .ref h)] rfl ?_
  refine V_aload_n hc dX4_init_0 0 rfl ?_
  refine V_objInit hc m_X4_init_o1 m_X4_init_o2 (List.mem_of_getElem? (i := 3) rfl) dX4_init_1 (Nat.le_of_ble_eq_true rfl) (Nat.le_of_ble_eq_true rfl) ?_
  refine V_aload_n hc dX4_init_4 0 rfl ?_
  refine V_newObj (C := RX2) (T := TX2) (N := 4) (mc := 13) (ms := 895) hc hF [.null, .null, .null, .null] rfl i2_X4_init tyX2 tyX2_ok m_X4_init_cl2 m_X4_init_in2 m_X4_init_it2 df_X2 (fun q9 => met_X2_init l D t q9) (by decide +kernel) gX4_init_X2_init_n9 rfl ⟨rfl, rfl⟩ ok_X2_init m_X4_init_im2 ⟨Nat.le_of_ble_eq_true rfl, Nat.le_of_ble_eq_true rfl⟩ (Nat.le_of_ble_eq_true rfl) dX4_init_5 dX4_init_8 dX4_init_9 ⟨Nat.le_of_ble_eq_true rfl, Nat.le_of_ble_eq_true rfl⟩ (fun qs us hp9 => ?_)
  generalize hst : stW t (sA qs us) u0 = SC
  refine V_weq (ws1 := stW t (sA qs us) u0 ++ [oB h 4 [.null, .null, .int (iI 0), .null, .null, .null, .null, .null, .null]]) rfl ?_
  rw [hst]
  refine V_pm (ws1 := [oB h 4 [.null, .null, .int (iI 0), .null, .null, .null, .null, .null, .null]] ++ SC) List.perm_append_comm ?_
  refine V_putF (C := RX4) (T := TX4) (N := 9) hc hnm i_X4_init 0 rfl rfl 0 (Nat.le_of_ble_eq_true rfl) m_X4_init_f10 tyX4 tyX4_ok nmX4 rfl rfl rfl rfl rfl (Nat.le_of_ble_eq_true rfl) dX4_init_12 ([oB h 4 [.ref qs, .null, .int (iI 0), .null, .null, .null, .null, .null, .null]] ++ SC) rfl ?_
  refine V_aload_n hc dX4_init_15 0 rfl ?_
  refine V_bipush hc dX4_init_16 rfl ?_
  refine V_newq (n := 6) hc hF m_X4_init_cl2 (Nat.le_of_ble_eq_true rfl) dX4_init_18 ⟨Nat.le_of_ble_eq_true rfl, Nat.le_of_ble_eq_true rfl⟩ (fun b0 => ?_)
  refine V_pm (ws1 := [oB h 4 [.ref qs, .null, .int (iI 0), .null, .null, .null, .null, .null, .null], aQ t b0 6 (fun _ => none)] ++ SC) (pmA [oB h 4 [.ref qs, .null, .int (iI 0), .null, .null, .null, .null, .null, .null]] (SC) [aQ t b0 6 (fun _ => none)]) ?_
  refine V_putF (C := RX4) (T := TX4) (N := 9) hc hnm i_X4_init 0 rfl rfl 1 (Nat.le_of_ble_eq_true rfl) m_X4_init_f16 tyX4 tyX4_ok nmX4 rfl rfl rfl rfl rfl (Nat.le_of_ble_eq_true rfl) dX4_init_21 ([oB h 4 [.ref qs, .ref b0, .int (iI 0), .null, .null, .null, .null, .null, .null], aQ t b0 6 (fun _ => none)] ++ SC) rfl ?_
  refine V_aload_n hc dX4_init_24 0 rfl ?_
  refine V_iconst hc dX4_init_25 ?_
  refine V_newq (n := 2) hc hF m_X4_init_cl2 (Nat.le_of_ble_eq_true rfl) dX4_init_26 ⟨Nat.le_of_ble_eq_true rfl, Nat.le_of_ble_eq_true rfl⟩ (fun b1 => ?_)
  refine V_pm (ws1 := [oB h 4 [.ref qs, .ref b0, .int (iI 0), .null, .null, .null, .null, .null, .null], aQ t b0 6 (fun _ => none), aQ t b1 2 (fun _ => none)] ++ SC) (pmA [oB h 4 [.ref qs, .ref b0, .int (iI 0), .null, .null, .null, .null, .null, .null], aQ t b0 6 (fun _ => none)] (SC) [aQ t b1 2 (fun _ => none)]) ?_
  refine V_putF (C := RX4) (T := TX4) (N := 9) hc hnm i_X4_init 0 rfl rfl 3 (Nat.le_of_ble_eq_true rfl) m_X4_init_f20 tyX4 tyX4_ok nmX4 rfl rfl rfl rfl rfl (Nat.le_of_ble_eq_true rfl) dX4_init_29 ([oB h 4 [.ref qs, .ref b0, .int (iI 0), .ref b1, .null, .null, .null, .null, .null], aQ t b0 6 (fun _ => none), aQ t b1 2 (fun _ => none)] ++ SC) rfl ?_
  refine V_aload_n hc dX4_init_32 0 rfl ?_
  refine V_iconst hc dX4_init_33 ?_
  refine V_newz (n := 2) hc m_X4_init_acboolean (Nat.le_of_ble_eq_true rfl) dX4_init_34 ⟨Nat.le_of_ble_eq_true rfl, Nat.le_of_ble_eq_true rfl⟩ (fun b2 => ?_)
  refine V_pm (ws1 := [oB h 4 [.ref qs, .ref b0, .int (iI 0), .ref b1, .null, .null, .null, .null, .null], aQ t b0 6 (fun _ => none), aQ t b1 2 (fun _ => none), aZ t b2 2 z0] ++ SC) (pmA [oB h 4 [.ref qs, .ref b0, .int (iI 0), .ref b1, .null, .null, .null, .null, .null], aQ t b0 6 (fun _ => none), aQ t b1 2 (fun _ => none)] (SC) [aZ t b2 2 z0]) ?_
  refine V_putF (C := RX4) (T := TX4) (N := 9) hc hnm i_X4_init 0 rfl rfl 4 (Nat.le_of_ble_eq_true rfl) m_X4_init_f23 tyX4 tyX4_ok nmX4 rfl rfl rfl rfl rfl (Nat.le_of_ble_eq_true rfl) dX4_init_36 ([oB h 4 [.ref qs, .ref b0, .int (iI 0), .ref b1, .ref b2, .null, .null, .null, .null], aQ t b0 6 (fun _ => none), aQ t b1 2 (fun _ => none), aZ t b2 2 z0] ++ SC) rfl ?_
  refine V_aload_n hc dX4_init_39 0 rfl ?_
  refine V_newObj (C := RX0) (T := TX0) (N := 2) (mc := 1) (ms := 60) hc hF [.null, .int (iI 0)] rfl i0_X4_init tyX0 tyX0_ok m_X4_init_cl0 m_X4_init_in0 m_X4_init_it0 df_X0 (fun q9 => met_X0_init l D t q9) (by decide +kernel) gX4_init_X0_init_n29 rfl ⟨rfl, rfl⟩ ok_X0_init m_X4_init_im0 ⟨Nat.le_of_ble_eq_true rfl, Nat.le_of_ble_eq_true rfl⟩ (Nat.le_of_ble_eq_true rfl) dX4_init_40 dX4_init_43 dX4_init_44 ⟨Nat.le_of_ble_eq_true rfl, Nat.le_of_ble_eq_true rfl⟩ (fun b3 b4 hp9 => ?_)
  refine V_pm (ws1 := [oB h 4 [.ref qs, .ref b0, .int (iI 0), .ref b1, .ref b2, .null, .null, .null, .null], aQ t b0 6 (fun _ => none), aQ t b1 2 (fun _ => none), aZ t b2 2 z0, oB b3 0 [.ref b4, .int (iI 0)], aC t b4 60 z0] ++ SC) ((List.perm_append_comm (l₁ := [oB b3 0 [.ref b4, .int (iI 0)], aC t b4 60 z0]) (l₂ := [oB h 4 [.ref qs, .ref b0, .int (iI 0), .ref b1, .ref b2, .null, .null, .null, .null], aQ t b0 6 (fun _ => none), aQ t b1 2 (fun _ => none), aZ t b2 2 z0] ++ SC)).trans (pmA [oB h 4 [.ref qs, .ref b0, .int (iI 0), .ref b1, .ref b2, .null, .null, .null, .null], aQ t b0 6 (fun _ => none), aQ t b1 2 (fun _ => none), aZ t b2 2 z0] SC [oB b3 0 [.ref b4, .int (iI 0)], aC t b4 60 z0])) ?_
  refine V_putF (C := RX4) (T := TX4) (N := 9) hc hnm i_X4_init 0 rfl rfl 5 (Nat.le_of_ble_eq_true rfl) m_X4_init_f30 tyX4 tyX4_ok nmX4 rfl rfl rfl rfl rfl (Nat.le_of_ble_eq_true rfl) dX4_init_47 ([oB h 4 [.ref qs, .ref b0, .int (iI 0), .ref b1, .ref b2, .ref b3, .null, .null, .null], aQ t b0 6 (fun _ => none), aQ t b1 2 (fun _ => none), aZ t b2 2 z0, oB b3 0 [.ref b4, .int (iI 0)], aC t b4 60 z0] ++ SC) rfl ?_
  refine V_aload_n hc dX4_init_50 0 rfl ?_
  refine V_bipush hc dX4_init_51 rfl ?_
  refine V_newi (n := 60) hc m_X4_init_acint (Nat.le_of_ble_eq_true rfl) dX4_init_53 ⟨Nat.le_of_ble_eq_true rfl, Nat.le_of_ble_eq_true rfl⟩ (fun b5 => ?_)
  refine V_pm (ws1 := [oB h 4 [.ref qs, .ref b0, .int (iI 0), .ref b1, .ref b2, .ref b3, .null, .null, .null], aQ t b0 6 (fun _ => none), aQ t b1 2 (fun _ => none), aZ t b2 2 z0, oB b3 0 [.ref b4, .int (iI 0)], aC t b4 60 z0, aI t b5 60 z0] ++ SC) (pmA [oB h 4 [.ref qs, .ref b0, .int (iI 0), .ref b1, .ref b2, .ref b3, .null, .null, .null], aQ t b0 6 (fun _ => none), aQ t b1 2 (fun _ => none), aZ t b2 2 z0, oB b3 0 [.ref b4, .int (iI 0)], aC t b4 60 z0] (SC) [aI t b5 60 z0]) ?_
  refine V_putF (C := RX4) (T := TX4) (N := 9) hc hnm i_X4_init 0 rfl rfl 6 (Nat.le_of_ble_eq_true rfl) m_X4_init_f34 tyX4 tyX4_ok nmX4 rfl rfl rfl rfl rfl (Nat.le_of_ble_eq_true rfl) dX4_init_55 ([oB h 4 [.ref qs, .ref b0, .int (iI 0), .ref b1, .ref b2, .ref b3, .ref b5, .null, .null], aQ t b0 6 (fun _ => none), aQ t b1 2 (fun _ => none), aZ t b2 2 z0, oB b3 0 [.ref b4, .int (iI 0)], aC t b4 60 z0, aI t b5 60 z0] ++ SC) rfl ?_
  refine V_aload_n hc dX4_init_58 0 rfl ?_
  refine V_sipush hc dX4_init_59 rfl ?_
  refine V_newz (n := 500) hc m_X4_init_acboolean (Nat.le_of_ble_eq_true rfl) dX4_init_62 ⟨Nat.le_of_ble_eq_true rfl, Nat.le_of_ble_eq_true rfl⟩ (fun b6 => ?_)
  refine V_pm (ws1 := [oB h 4 [.ref qs, .ref b0, .int (iI 0), .ref b1, .ref b2, .ref b3, .ref b5, .null, .null], aQ t b0 6 (fun _ => none), aQ t b1 2 (fun _ => none), aZ t b2 2 z0, oB b3 0 [.ref b4, .int (iI 0)], aC t b4 60 z0, aI t b5 60 z0, aZ t b6 500 z0] ++ SC) (pmA [oB h 4 [.ref qs, .ref b0, .int (iI 0), .ref b1, .ref b2, .ref b3, .ref b5, .null, .null], aQ t b0 6 (fun _ => none), aQ t b1 2 (fun _ => none), aZ t b2 2 z0, oB b3 0 [.ref b4, .int (iI 0)], aC t b4 60 z0, aI t b5 60 z0] (SC) [aZ t b6 500 z0]) ?_
  refine V_putF (C := RX4) (T := TX4) (N := 9) hc hnm i_X4_init 0 rfl rfl 7 (Nat.le_of_ble_eq_true rfl) m_X4_init_f38 tyX4 tyX4_ok nmX4 rfl rfl rfl rfl rfl (Nat.le_of_ble_eq_true rfl) dX4_init_64 ([oB h 4 [.ref qs, .ref b0, .int (iI 0), .ref b1, .ref b2, .ref b3, .ref b5, .ref b6, .null], aQ t b0 6 (fun _ => none), aQ t b1 2 (fun _ => none), aZ t b2 2 z0, oB b3 0 [.ref b4, .int (iI 0)], aC t b4 60 z0, aI t b5 60 z0, aZ t b6 500 z0] ++ SC) rfl ?_
  refine V_aload_n hc dX4_init_67 0 rfl ?_
  refine V_newObj (C := RX1) (T := TX1) (N := 7) (mc := 6) (ms := 514) hc hF [.null, .null, .int (iI 0), .int (iI 0), .null, .int (iI 0), .int (iI 0)] rfl i1_X4_init tyX1 tyX1_ok m_X4_init_cl1 m_X4_init_in1 m_X4_init_it1 df_X1 (fun q9 => met_X1_init l D t q9) (by decide +kernel) gX4_init_X1_init_n43 rfl ⟨rfl, rfl⟩ ok_X1_init m_X4_init_im1 ⟨Nat.le_of_ble_eq_true rfl, Nat.le_of_ble_eq_true rfl⟩ (Nat.le_of_ble_eq_true rfl) dX4_init_68 dX4_init_71 dX4_init_72 ⟨Nat.le_of_ble_eq_true rfl, Nat.le_of_ble_eq_true rfl⟩ (fun b7 v hp9 => ?_)
  refine V_pm (ws1 := [oB h 4 [.ref qs, .ref b0, .int (iI 0), .ref b1, .ref b2, .ref b3, .ref b5, .ref b6, .null], aQ t b0 6 (fun _ => none), aQ t b1 2 (fun _ => none), aZ t b2 2 z0, oB b3 0 [.ref b4, .int (iI 0)], aC t b4 60 z0, aI t b5 60 z0, aZ t b6 500 z0, oB b7 1 [.ref (v 0), .ref (v 4), .int (iI 0), .int (iI 0), .ref (v 5), .int (iI 0), .int (iI 0)], oB (v 0) 3 [.ref (v 1), .ref (v 2), .ref (v 3), .int (iI 0)], aI t (v 1) 120 z0, aI t (v 2) 120 z0, aZ t (v 3) 120 z0, aI t (v 4) 120 z0, aI t (v 5) 30 z0] ++ SC) ((List.perm_append_comm (l₁ := [oB b7 1 [.ref (v 0), .ref (v 4), .int (iI 0), .int (iI 0), .ref (v 5), .int (iI 0), .int (iI 0)], oB (v 0) 3 [.ref (v 1), .ref (v 2), .ref (v 3), .int (iI 0)], aI t (v 1) 120 z0, aI t (v 2) 120 z0, aZ t (v 3) 120 z0, aI t (v 4) 120 z0, aI t (v 5) 30 z0]) (l₂ := [oB h 4 [.ref qs, .ref b0, .int (iI 0), .ref b1, .ref b2, .ref b3, .ref b5, .ref b6, .null], aQ t b0 6 (fun _ => none), aQ t b1 2 (fun _ => none), aZ t b2 2 z0, oB b3 0 [.ref b4, .int (iI 0)], aC t b4 60 z0, aI t b5 60 z0, aZ t b6 500 z0] ++ SC)).trans (pmA [oB h 4 [.ref qs, .ref b0, .int (iI 0), .ref b1, .ref b2, .ref b3, .ref b5, .ref b6, .null], aQ t b0 6 (fun _ => none), aQ t b1 2 (fun _ => none), aZ t b2 2 z0, oB b3 0 [.ref b4, .int (iI 0)], aC t b4 60 z0, aI t b5 60 z0, aZ t b6 500 z0] SC [oB b7 1 [.ref (v 0), .ref (v 4), .int (iI 0), .int (iI 0), .ref (v 5), .int (iI 0), .int (iI 0)], oB (v 0) 3 [.ref (v 1), .ref (v 2), .ref (v 3), .int (iI 0)], aI t (v 1) 120 z0, aI t (v 2) 120 z0, aZ t (v 3) 120 z0, aI t (v 4) 120 z0, aI t (v 5) 30 z0])) ?_
  refine V_putF (C := RX4) (T := TX4) (N := 9) hc hnm i_X4_init 0 rfl rfl 8 (Nat.le_of_ble_eq_true rfl) m_X4_init_f44 tyX4 tyX4_ok nmX4 rfl rfl rfl rfl rfl (Nat.le_of_ble_eq_true rfl) dX4_init_75 ([oB h 4 [.ref qs, .ref b0, .int (iI 0), .ref b1, .ref b2, .ref b3, .ref b5, .ref b6, .ref b7], aQ t b0 6 (fun _ => none), aQ t b1 2 (fun _ => none), aZ t b2 2 z0, oB b3 0 [.ref b4, .int (iI 0)], aC t b4 60 z0, aI t b5 60 z0, aZ t b6 500 z0, oB b7 1 [.ref (v 0), .ref (v 4), .int (iI 0), .int (iI 0), .ref (v 5), .int (iI 0), .int (iI 0)], oB (v 0) 3 [.ref (v 1), .ref (v 2), .ref (v 3), .int (iI 0)], aI t (v 1) 120 z0, aI t (v 2) 120 z0, aZ t (v 3) 120 z0, aI t (v 4) 120 z0, aI t (v 5) 30 z0] ++ SC) rfl ?_
  refine V_iconst hc dX4_init_78 ?_
  refine V_istore_n hc dX4_init_79 [(1, .int (iI 0)), (0, .ref h)] (Nat.le_of_ble_eq_true rfl) rfl ?_
  refine V_iload_n hc dX4_init_80 0 rfl ?_
  refine V_bipush hc dX4_init_81 rfl ?_
  refine V_icmp_ge (X := False) (Y := True) (tgt := 105) hc dX4_init_83 rfl (by decide) (fun h => h.elim) (fun _ => ?_)
  refine V_aload_n hc dX4_init_86 1 rfl ?_
  refine V_get (C := RX4) (T := TX4) (N := 9) hc i_X4_init 0 rfl rfl 1 (Nat.le_of_ble_eq_true rfl) m_X4_init_f16 rfl dX4_init_87 ?_
  refine V_iload_n hc dX4_init_90 0 rfl ?_
  refine V_newObj (C := RX2) (T := TX2) (N := 4) (mc := 13) (ms := 895) hc hF [.null, .null, .null, .null] rfl i2_X4_init tyX2 tyX2_ok m_X4_init_cl2 m_X4_init_in2 m_X4_init_it2 df_X2 (fun q9 => met_X2_init l D t q9) (by decide +kernel) gX4_init_X2_init_n9 rfl ⟨rfl, rfl⟩ ok_X2_init m_X4_init_im2 ⟨Nat.le_of_ble_eq_true rfl, Nat.le_of_ble_eq_true rfl⟩ (Nat.le_of_ble_eq_true rfl) dX4_init_91 dX4_init_94 dX4_init_95 ⟨Nat.le_of_ble_eq_true rfl, Nat.le_of_ble_eq_true rfl⟩ (fun sq0 su0 hp9 => ?_)
  refine V_aast (X := True) hc 15 0 rfl rfl (Nat.le_of_ble_eq_true rfl) (by decide) dX4_init_98 (stW t (sA sq0 su0) u0 ++ ([oB h 4 [.ref qs, .ref b0, .int (iI 0), .ref b1, .ref b2, .ref b3, .ref b5, .ref b6, .ref b7], aQ t b0 6 (va_up (fun _ => none) 0 (some sq0)), aQ t b1 2 (fun _ => none), aZ t b2 2 z0, oB b3 0 [.ref b4, .int (iI 0)], aC t b4 60 z0, aI t b5 60 z0, aZ t b6 500 z0, oB b7 1 [.ref (v 0), .ref (v 4), .int (iI 0), .int (iI 0), .ref (v 5), .int (iI 0), .int (iI 0)], oB (v 0) 3 [.ref (v 1), .ref (v 2), .ref (v 3), .int (iI 0)], aI t (v 1) 120 z0, aI t (v 2) 120 z0, aZ t (v 3) 120 z0, aI t (v 4) 120 z0, aI t (v 5) 30 z0] ++ SC)) rfl (fun _ => ?_)
  generalize hs0 : stW t (sA sq0 su0) u0 = S09
  refine V_pm (ws1 := [oB h 4 [.ref qs, .ref b0, .int (iI 0), .ref b1, .ref b2, .ref b3, .ref b5, .ref b6, .ref b7], aQ t b0 6 (va_up (fun _ => none) 0 (some sq0)), aQ t b1 2 (fun _ => none), aZ t b2 2 z0, oB b3 0 [.ref b4, .int (iI 0)], aC t b4 60 z0, aI t b5 60 z0, aZ t b6 500 z0, oB b7 1 [.ref (v 0), .ref (v 4), .int (iI 0), .int (iI 0), .ref (v 5), .int (iI 0), .int (iI 0)], oB (v 0) 3 [.ref (v 1), .ref (v 2), .ref (v 3), .int (iI 0)], aI t (v 1) 120 z0, aI t (v 2) 120 z0, aZ t (v 3) 120 z0, aI t (v 4) 120 z0, aI t (v 5) 30 z0] ++ (SC ++ S09)) (pmT S09 [oB h 4 [.ref qs, .ref b0, .int (iI 0), .ref b1, .ref b2, .ref b3, .ref b5, .ref b6, .ref b7], aQ t b0 6 (va_up (fun _ => none) 0 (some sq0)), aQ t b1 2 (fun _ => none), aZ t b2 2 z0, oB b3 0 [.ref b4, .int (iI 0)], aC t b4 60 z0, aI t b5 60 z0, aZ t b6 500 z0, oB b7 1 [.ref (v 0), .ref (v 4), .int (iI 0), .int (iI 0), .ref (v 5), .int (iI 0), .int (iI 0)], oB (v 0) 3 [.ref (v 1), .ref (v 2), .ref (v 3), .int (iI 0)], aI t (v 1) 120 z0, aI t (v 2) 120 z0, aZ t (v 3) 120 z0, aI t (v 4) 120 z0, aI t (v 5) 30 z0] SC) ?_
  refine V_iinc (a := 0) (n := 1) hc dX4_init_99 0 rfl [(1, .int (iI 1)), (0, .ref h)] (Nat.le_of_ble_eq_true rfl) rfl ?_
  refine V_goto (tgt := 80) hc dX4_init_102 rfl ?_
  refine V_iload_n hc dX4_init_80 0 rfl ?_
  refine V_bipush hc dX4_init_81 rfl ?_
  refine V_icmp_ge (X := False) (Y := True) (tgt := 105) hc dX4_init_83 rfl (by decide) (fun h => h.elim) (fun _ => ?_)
  refine V_aload_n hc dX4_init_86 1 rfl ?_
  refine V_get (C := RX4) (T := TX4) (N := 9) hc i_X4_init 0 rfl rfl 1 (Nat.le_of_ble_eq_true rfl) m_X4_init_f16 rfl dX4_init_87 ?_
  refine V_iload_n hc dX4_init_90 0 rfl ?_
  refine V_newObj (C := RX2) (T := TX2) (N := 4) (mc := 13) (ms := 895) hc hF [.null, .null, .null, .null] rfl i2_X4_init tyX2 tyX2_ok m_X4_init_cl2 m_X4_init_in2 m_X4_init_it2 df_X2 (fun q9 => met_X2_init l D t q9) (by decide +kernel) gX4_init_X2_init_n9 rfl ⟨rfl, rfl⟩ ok_X2_init m_X4_init_im2 ⟨Nat.le_of_ble_eq_true rfl, Nat.le_of_ble_eq_true rfl⟩ (Nat.le_of_ble_eq_true rfl) dX4_init_91 dX4_init_94 dX4_init_95 ⟨Nat.le_of_ble_eq_true rfl, Nat.le_of_ble_eq_true rfl⟩ (fun sq1 su1 hp9 => ?_)
  refine V_aast (X := True) hc 15 0 rfl rfl (Nat.le_of_ble_eq_true rfl) (by decide) dX4_init_98 (stW t (sA sq1 su1) u0 ++ ([oB h 4 [.ref qs, .ref b0, .int (iI 0), .ref b1, .ref b2, .ref b3, .ref b5, .ref b6, .ref b7], aQ t b0 6 (va_up (va_up (fun _ => none) 0 (some sq0)) 1 (some sq1)), aQ t b1 2 (fun _ => none), aZ t b2 2 z0, oB b3 0 [.ref b4, .int (iI 0)], aC t b4 60 z0, aI t b5 60 z0, aZ t b6 500 z0, oB b7 1 [.ref (v 0), .ref (v 4), .int (iI 0), .int (iI 0), .ref (v 5), .int (iI 0), .int (iI 0)], oB (v 0) 3 [.ref (v 1), .ref (v 2), .ref (v 3), .int (iI 0)], aI t (v 1) 120 z0, aI t (v 2) 120 z0, aZ t (v 3) 120 z0, aI t (v 4) 120 z0, aI t (v 5) 30 z0] ++ (SC ++ S09))) rfl (fun _ => ?_)
  generalize hs1 : stW t (sA sq1 su1) u0 = S19
  refine V_pm (ws1 := [oB h 4 [.ref qs, .ref b0, .int (iI 0), .ref b1, .ref b2, .ref b3, .ref b5, .ref b6, .ref b7], aQ t b0 6 (va_up (va_up (fun _ => none) 0 (some sq0)) 1 (some sq1)), aQ t b1 2 (fun _ => none), aZ t b2 2 z0, oB b3 0 [.ref b4, .int (iI 0)], aC t b4 60 z0, aI t b5 60 z0, aZ t b6 500 z0, oB b7 1 [.ref (v 0), .ref (v 4), .int (iI 0), .int (iI 0), .ref (v 5), .int (iI 0), .int (iI 0)], oB (v 0) 3 [.ref (v 1), .ref (v 2), .ref (v 3), .int (iI 0)], aI t (v 1) 120 z0, aI t (v 2) 120 z0, aZ t (v 3) 120 z0, aI t (v 4) 120 z0, aI t (v 5) 30 z0] ++ ((SC ++ S09) ++ S19)) (pmT S19 [oB h 4 [.ref qs, .ref b0, .int (iI 0), .ref b1, .ref b2, .ref b3, .ref b5, .ref b6, .ref b7], aQ t b0 6 (va_up (va_up (fun _ => none) 0 (some sq0)) 1 (some sq1)), aQ t b1 2 (fun _ => none), aZ t b2 2 z0, oB b3 0 [.ref b4, .int (iI 0)], aC t b4 60 z0, aI t b5 60 z0, aZ t b6 500 z0, oB b7 1 [.ref (v 0), .ref (v 4), .int (iI 0), .int (iI 0), .ref (v 5), .int (iI 0), .int (iI 0)], oB (v 0) 3 [.ref (v 1), .ref (v 2), .ref (v 3), .int (iI 0)], aI t (v 1) 120 z0, aI t (v 2) 120 z0, aZ t (v 3) 120 z0, aI t (v 4) 120 z0, aI t (v 5) 30 z0] (SC ++ S09)) ?_
  refine V_iinc (a := 1) (n := 1) hc dX4_init_99 0 rfl [(1, .int (iI 2)), (0, .ref h)] (Nat.le_of_ble_eq_true rfl) rfl ?_
  refine V_goto (tgt := 80) hc dX4_init_102 rfl ?_
  refine V_iload_n hc dX4_init_80 0 rfl ?_
  refine V_bipush hc dX4_init_81 rfl ?_
  refine V_icmp_ge (X := False) (Y := True) (tgt := 105) hc dX4_init_83 rfl (by decide) (fun h => h.elim) (fun _ => ?_)
  refine V_aload_n hc dX4_init_86 1 rfl ?_
  refine V_get (C := RX4) (T := TX4) (N := 9) hc i_X4_init 0 rfl rfl 1 (Nat.le_of_ble_eq_true rfl) m_X4_init_f16 rfl dX4_init_87 ?_
  refine V_iload_n hc dX4_init_90 0 rfl ?_
  refine V_newObj (C := RX2) (T := TX2) (N := 4) (mc := 13) (ms := 895) hc hF [.null, .null, .null, .null] rfl i2_X4_init tyX2 tyX2_ok m_X4_init_cl2 m_X4_init_in2 m_X4_init_it2 df_X2 (fun q9 => met_X2_init l D t q9) (by decide +kernel) gX4_init_X2_init_n9 rfl ⟨rfl, rfl⟩ ok_X2_init m_X4_init_im2 ⟨Nat.le_of_ble_eq_true rfl, Nat.le_of_ble_eq_true rfl⟩ (Nat.le_of_ble_eq_true rfl) dX4_init_91 dX4_init_94 dX4_init_95 ⟨Nat.le_of_ble_eq_true rfl, Nat.le_of_ble_eq_true rfl⟩ (fun sq2 su2 hp9 => ?_)
  refine V_aast (X := True) hc 15 0 rfl rfl (Nat.le_of_ble_eq_true rfl) (by decide) dX4_init_98 (stW t (sA sq2 su2) u0 ++ ([oB h 4 [.ref qs, .ref b0, .int (iI 0), .ref b1, .ref b2, .ref b3, .ref b5, .ref b6, .ref b7], aQ t b0 6 (va_up (va_up (va_up (fun _ => none) 0 (some sq0)) 1 (some sq1)) 2 (some sq2)), aQ t b1 2 (fun _ => none), aZ t b2 2 z0, oB b3 0 [.ref b4, .int (iI 0)], aC t b4 60 z0, aI t b5 60 z0, aZ t b6 500 z0, oB b7 1 [.ref (v 0), .ref (v 4), .int (iI 0), .int (iI 0), .ref (v 5), .int (iI 0), .int (iI 0)], oB (v 0) 3 [.ref (v 1), .ref (v 2), .ref (v 3), .int (iI 0)], aI t (v 1) 120 z0, aI t (v 2) 120 z0, aZ t (v 3) 120 z0, aI t (v 4) 120 z0, aI t (v 5) 30 z0] ++ ((SC ++ S09) ++ S19))) rfl (fun _ => ?_)
  generalize hs2 : stW t (sA sq2 su2) u0 = S29
  refine V_pm (ws1 := [oB h 4 [.ref qs, .ref b0, .int (iI 0), .ref b1, .ref b2, .ref b3, .ref b5, .ref b6, .ref b7], aQ t b0 6 (va_up (va_up (va_up (fun _ => none) 0 (some sq0)) 1 (some sq1)) 2 (some sq2)), aQ t b1 2 (fun _ => none), aZ t b2 2 z0, oB b3 0 [.ref b4, .int (iI 0)], aC t b4 60 z0, aI t b5 60 z0, aZ t b6 500 z0, oB b7 1 [.ref (v 0), .ref (v 4), .int (iI 0), .int (iI 0), .ref (v 5), .int (iI 0), .int (iI 0)], oB (v 0) 3 [.ref (v 1), .ref (v 2), .ref (v 3), .int (iI 0)], aI t (v 1) 120 z0, aI t (v 2) 120 z0, aZ t (v 3) 120 z0, aI t (v 4) 120 z0, aI t (v 5) 30 z0] ++ (((SC ++ S09) ++ S19) ++ S29)) (pmT S29 [oB h 4 [.ref qs, .ref b0, .int (iI 0), .ref b1, .ref b2, .ref b3, .ref b5, .ref b6, .ref b7], aQ t b0 6 (va_up (va_up (va_up (fun _ => none) 0 (some sq0)) 1 (some sq1)) 2 (some sq2)), aQ t b1 2 (fun _ => none), aZ t b2 2 z0, oB b3 0 [.ref b4, .int (iI 0)], aC t b4 60 z0, aI t b5 60 z0, aZ t b6 500 z0, oB b7 1 [.ref (v 0), .ref (v 4), .int (iI 0), .int (iI 0), .ref (v 5), .int (iI 0), .int (iI 0)], oB (v 0) 3 [.ref (v 1), .ref (v 2), .ref (v 3), .int (iI 0)], aI t (v 1) 120 z0, aI t (v 2) 120 z0, aZ t (v 3) 120 z0, aI t (v 4) 120 z0, aI t (v 5) 30 z0] ((SC ++ S09) ++ S19)) ?_
  refine V_iinc (a := 2) (n := 1) hc dX4_init_99 0 rfl [(1, .int (iI 3)), (0, .ref h)] (Nat.le_of_ble_eq_true rfl) rfl ?_
  refine V_goto (tgt := 80) hc dX4_init_102 rfl ?_
  refine V_iload_n hc dX4_init_80 0 rfl ?_
  refine V_bipush hc dX4_init_81 rfl ?_
  refine V_icmp_ge (X := False) (Y := True) (tgt := 105) hc dX4_init_83 rfl (by decide) (fun h => h.elim) (fun _ => ?_)
  refine V_aload_n hc dX4_init_86 1 rfl ?_
  refine V_get (C := RX4) (T := TX4) (N := 9) hc i_X4_init 0 rfl rfl 1 (Nat.le_of_ble_eq_true rfl) m_X4_init_f16 rfl dX4_init_87 ?_
  refine V_iload_n hc dX4_init_90 0 rfl ?_
  refine V_newObj (C := RX2) (T := TX2) (N := 4) (mc := 13) (ms := 895) hc hF [.null, .null, .null, .null] rfl i2_X4_init tyX2 tyX2_ok m_X4_init_cl2 m_X4_init_in2 m_X4_init_it2 df_X2 (fun q9 => met_X2_init l D t q9) (by decide +kernel) gX4_init_X2_init_n9 rfl ⟨rfl, rfl⟩ ok_X2_init m_X4_init_im2 ⟨Nat.le_of_ble_eq_true rfl, Nat.le_of_ble_eq_true rfl⟩ (Nat.le_of_ble_eq_true rfl) dX4_init_91 dX4_init_94 dX4_init_95 ⟨Nat.le_of_ble_eq_true rfl, Nat.le_of_ble_eq_true rfl⟩ (fun sq3 su3 hp9 => ?_)
  refine V_aast (X := True) hc 15 0 rfl rfl (Nat.le_of_ble_eq_true rfl) (by decide) dX4_init_98 (stW t (sA sq3 su3) u0 ++ ([oB h 4 [.ref qs, .ref b0, .int (iI 0), .ref b1, .ref b2, .ref b3, .ref b5, .ref b6, .ref b7], aQ t b0 6 (va_up (va_up (va_up (va_up (fun _ => none) 0 (some sq0)) 1 (some sq1)) 2 (some sq2)) 3 (some sq3)), aQ t b1 2 (fun _ => none), aZ t b2 2 z0, oB b3 0 [.ref b4, .int (iI 0)], aC t b4 60 z0, aI t b5 60 z0, aZ t b6 500 z0, oB b7 1 [.ref (v 0), .ref (v 4), .int (iI 0), .int (iI 0), .ref (v 5), .int (iI 0), .int (iI 0)], oB (v 0) 3 [.ref (v 1), .ref (v 2), .ref (v 3), .int (iI 0)], aI t (v 1) 120 z0, aI t (v 2) 120 z0, aZ t (v 3) 120 z0, aI t (v 4) 120 z0, aI t (v 5) 30 z0] ++ (((SC ++ S09) ++ S19) ++ S29))) rfl (fun _ => ?_)
  generalize hs3 : stW t (sA sq3 su3) u0 = S39
  refine V_pm (ws1 := [oB h 4 [.ref qs, .ref b0, .int (iI 0), .ref b1, .ref b2, .ref b3, .ref b5, .ref b6, .ref b7], aQ t b0 6 (va_up (va_up (va_up (va_up (fun _ => none) 0 (some sq0)) 1 (some sq1)) 2 (some sq2)) 3 (some sq3)), aQ t b1 2 (fun _ => none), aZ t b2 2 z0, oB b3 0 [.ref b4, .int (iI 0)], aC t b4 60 z0, aI t b5 60 z0, aZ t b6 500 z0, oB b7 1 [.ref (v 0), .ref (v 4), .int (iI 0), .int (iI 0), .ref (v 5), .int (iI 0), .int (iI 0)], oB (v 0) 3 [.ref (v 1), .ref (v 2), .ref (v 3), .int (iI 0)], aI t (v 1) 120 z0, aI t (v 2) 120 z0, aZ t (v 3) 120 z0, aI t (v 4) 120 z0, aI t (v 5) 30 z0] ++ ((((SC ++ S09) ++ S19) ++ S29) ++ S39)) (pmT S39 [oB h 4 [.ref qs, .ref b0, .int (iI 0), .ref b1, .ref b2, .ref b3, .ref b5, .ref b6, .ref b7], aQ t b0 6 (va_up (va_up (va_up (va_up (fun _ => none) 0 (some sq0)) 1 (some sq1)) 2 (some sq2)) 3 (some sq3)), aQ t b1 2 (fun _ => none), aZ t b2 2 z0, oB b3 0 [.ref b4, .int (iI 0)], aC t b4 60 z0, aI t b5 60 z0, aZ t b6 500 z0, oB b7 1 [.ref (v 0), .ref (v 4), .int (iI 0), .int (iI 0), .ref (v 5), .int (iI 0), .int (iI 0)], oB (v 0) 3 [.ref (v 1), .ref (v 2), .ref (v 3), .int (iI 0)], aI t (v 1) 120 z0, aI t (v 2) 120 z0, aZ t (v 3) 120 z0, aI t (v 4) 120 z0, aI t (v 5) 30 z0] (((SC ++ S09) ++ S19) ++ S29)) ?_
  refine V_iinc (a := 3) (n := 1) hc dX4_init_99 0 rfl [(1, .int (iI 4)), (0, .ref h)] (Nat.le_of_ble_eq_true rfl) rfl ?_
  refine V_goto (tgt := 80) hc dX4_init_102 rfl ?_
  refine V_iload_n hc dX4_init_80 0 rfl ?_
  refine V_bipush hc dX4_init_81 rfl ?_
  refine V_icmp_ge (X := False) (Y := True) (tgt := 105) hc dX4_init_83 rfl (by decide) (fun h => h.elim) (fun _ => ?_)
  refine V_aload_n hc dX4_init_86 1 rfl ?_
  refine V_get (C := RX4) (T := TX4) (N := 9) hc i_X4_init 0 rfl rfl 1 (Nat.le_of_ble_eq_true rfl) m_X4_init_f16 rfl dX4_init_87 ?_
  refine V_iload_n hc dX4_init_90 0 rfl ?_
  refine V_newObj (C := RX2) (T := TX2) (N := 4) (mc := 13) (ms := 895) hc hF [.null, .null, .null, .null] rfl i2_X4_init tyX2 tyX2_ok m_X4_init_cl2 m_X4_init_in2 m_X4_init_it2 df_X2 (fun q9 => met_X2_init l D t q9) (by decide +kernel) gX4_init_X2_init_n9 rfl ⟨rfl, rfl⟩ ok_X2_init m_X4_init_im2 ⟨Nat.le_of_ble_eq_true rfl, Nat.le_of_ble_eq_true rfl⟩ (Nat.le_of_ble_eq_true rfl) dX4_init_91 dX4_init_94 dX4_init_95 ⟨Nat.le_of_ble_eq_true rfl, Nat.le_of_ble_eq_true rfl⟩ (fun sq4 su4 hp9 => ?_)
  refine V_aast (X := True) hc 15 0 rfl rfl (Nat.le_of_ble_eq_true rfl) (by decide) dX4_init_98 (stW t (sA sq4 su4) u0 ++ ([oB h 4 [.ref qs, .ref b0, .int (iI 0), .ref b1, .ref b2, .ref b3, .ref b5, .ref b6, .ref b7], aQ t b0 6 (va_up (va_up (va_up (va_up (va_up (fun _ => none) 0 (some sq0)) 1 (some sq1)) 2 (some sq2)) 3 (some sq3)) 4 (some sq4)), aQ t b1 2 (fun _ => none), aZ t b2 2 z0, oB b3 0 [.ref b4, .int (iI 0)], aC t b4 60 z0, aI t b5 60 z0, aZ t b6 500 z0, oB b7 1 [.ref (v 0), .ref (v 4), .int (iI 0), .int (iI 0), .ref (v 5), .int (iI 0), .int (iI 0)], oB (v 0) 3 [.ref (v 1), .ref (v 2), .ref (v 3), .int (iI 0)], aI t (v 1) 120 z0, aI t (v 2) 120 z0, aZ t (v 3) 120 z0, aI t (v 4) 120 z0, aI t (v 5) 30 z0] ++ ((((SC ++ S09) ++ S19) ++ S29) ++ S39))) rfl (fun _ => ?_)
  generalize hs4 : stW t (sA sq4 su4) u0 = S49
  refine V_pm (ws1 := [oB h 4 [.ref qs, .ref b0, .int (iI 0), .ref b1, .ref b2, .ref b3, .ref b5, .ref b6, .ref b7], aQ t b0 6 (va_up (va_up (va_up (va_up (va_up (fun _ => none) 0 (some sq0)) 1 (some sq1)) 2 (some sq2)) 3 (some sq3)) 4 (some sq4)), aQ t b1 2 (fun _ => none), aZ t b2 2 z0, oB b3 0 [.ref b4, .int (iI 0)], aC t b4 60 z0, aI t b5 60 z0, aZ t b6 500 z0, oB b7 1 [.ref (v 0), .ref (v 4), .int (iI 0), .int (iI 0), .ref (v 5), .int (iI 0), .int (iI 0)], oB (v 0) 3 [.ref (v 1), .ref (v 2), .ref (v 3), .int (iI 0)], aI t (v 1) 120 z0, aI t (v 2) 120 z0, aZ t (v 3) 120 z0, aI t (v 4) 120 z0, aI t (v 5) 30 z0] ++ (((((SC ++ S09) ++ S19) ++ S29) ++ S39) ++ S49)) (pmT S49 [oB h 4 [.ref qs, .ref b0, .int (iI 0), .ref b1, .ref b2, .ref b3, .ref b5, .ref b6, .ref b7], aQ t b0 6 (va_up (va_up (va_up (va_up (va_up (fun _ => none) 0 (some sq0)) 1 (some sq1)) 2 (some sq2)) 3 (some sq3)) 4 (some sq4)), aQ t b1 2 (fun _ => none), aZ t b2 2 z0, oB b3 0 [.ref b4, .int (iI 0)], aC t b4 60 z0, aI t b5 60 z0, aZ t b6 500 z0, oB b7 1 [.ref (v 0), .ref (v 4), .int (iI 0), .int (iI 0), .ref (v 5), .int (iI 0), .int (iI 0)], oB (v 0) 3 [.ref (v 1), .ref (v 2), .ref (v 3), .int (iI 0)], aI t (v 1) 120 z0, aI t (v 2) 120 z0, aZ t (v 3) 120 z0, aI t (v 4) 120 z0, aI t (v 5) 30 z0] ((((SC ++ S09) ++ S19) ++ S29) ++ S39)) ?_
  refine V_iinc (a := 4) (n := 1) hc dX4_init_99 0 rfl [(1, .int (iI 5)), (0, .ref h)] (Nat.le_of_ble_eq_true rfl) rfl ?_
  refine V_goto (tgt := 80) hc dX4_init_102 rfl ?_
  refine V_iload_n hc dX4_init_80 0 rfl ?_
  refine V_bipush hc dX4_init_81 rfl ?_
  refine V_icmp_ge (X := False) (Y := True) (tgt := 105) hc dX4_init_83 rfl (by decide) (fun h => h.elim) (fun _ => ?_)
  refine V_aload_n hc dX4_init_86 1 rfl ?_
  refine V_get (C := RX4) (T := TX4) (N := 9) hc i_X4_init 0 rfl rfl 1 (Nat.le_of_ble_eq_true rfl) m_X4_init_f16 rfl dX4_init_87 ?_
  refine V_iload_n hc dX4_init_90 0 rfl ?_
  refine V_newObj (C := RX2) (T := TX2) (N := 4) (mc := 13) (ms := 895) hc hF [.null, .null, .null, .null] rfl i2_X4_init tyX2 tyX2_ok m_X4_init_cl2 m_X4_init_in2 m_X4_init_it2 df_X2 (fun q9 => met_X2_init l D t q9) (by decide +kernel) gX4_init_X2_init_n9 rfl ⟨rfl, rfl⟩ ok_X2_init m_X4_init_im2 ⟨Nat.le_of_ble_eq_true rfl, Nat.le_of_ble_eq_true rfl⟩ (Nat.le_of_ble_eq_true rfl) dX4_init_91 dX4_init_94 dX4_init_95 ⟨Nat.le_of_ble_eq_true rfl, Nat.le_of_ble_eq_true rfl⟩ (fun sq5 su5 hp9 => ?_)
  refine V_aast (X := True) hc 15 0 rfl rfl (Nat.le_of_ble_eq_true rfl) (by decide) dX4_init_98 (stW t (sA sq5 su5) u0 ++ ([oB h 4 [.ref qs, .ref b0, .int (iI 0), .ref b1, .ref b2, .ref b3, .ref b5, .ref b6, .ref b7], aQ t b0 6 (va_up (va_up (va_up (va_up (va_up (va_up (fun _ => none) 0 (some sq0)) 1 (some sq1)) 2 (some sq2)) 3 (some sq3)) 4 (some sq4)) 5 (some sq5)), aQ t b1 2 (fun _ => none), aZ t b2 2 z0, oB b3 0 [.ref b4, .int (iI 0)], aC t b4 60 z0, aI t b5 60 z0, aZ t b6 500 z0, oB b7 1 [.ref (v 0), .ref (v 4), .int (iI 0), .int (iI 0), .ref (v 5), .int (iI 0), .int (iI 0)], oB (v 0) 3 [.ref (v 1), .ref (v 2), .ref (v 3), .int (iI 0)], aI t (v 1) 120 z0, aI t (v 2) 120 z0, aZ t (v 3) 120 z0, aI t (v 4) 120 z0, aI t (v 5) 30 z0] ++ (((((SC ++ S09) ++ S19) ++ S29) ++ S39) ++ S49))) rfl (fun _ => ?_)
  generalize hs5 : stW t (sA sq5 su5) u0 = S59
  refine V_pm (ws1 := [oB h 4 [.ref qs, .ref b0, .int (iI 0), .ref b1, .ref b2, .ref b3, .ref b5, .ref b6, .ref b7], aQ t b0 6 (va_up (va_up (va_up (va_up (va_up (va_up (fun _ => none) 0 (some sq0)) 1 (some sq1)) 2 (some sq2)) 3 (some sq3)) 4 (some sq4)) 5 (some sq5)), aQ t b1 2 (fun _ => none), aZ t b2 2 z0, oB b3 0 [.ref b4, .int (iI 0)], aC t b4 60 z0, aI t b5 60 z0, aZ t b6 500 z0, oB b7 1 [.ref (v 0), .ref (v 4), .int (iI 0), .int (iI 0), .ref (v 5), .int (iI 0), .int (iI 0)], oB (v 0) 3 [.ref (v 1), .ref (v 2), .ref (v 3), .int (iI 0)], aI t (v 1) 120 z0, aI t (v 2) 120 z0, aZ t (v 3) 120 z0, aI t (v 4) 120 z0, aI t (v 5) 30 z0] ++ ((((((SC ++ S09) ++ S19) ++ S29) ++ S39) ++ S49) ++ S59)) (pmT S59 [oB h 4 [.ref qs, .ref b0, .int (iI 0), .ref b1, .ref b2, .ref b3, .ref b5, .ref b6, .ref b7], aQ t b0 6 (va_up (va_up (va_up (va_up (va_up (va_up (fun _ => none) 0 (some sq0)) 1 (some sq1)) 2 (some sq2)) 3 (some sq3)) 4 (some sq4)) 5 (some sq5)), aQ t b1 2 (fun _ => none), aZ t b2 2 z0, oB b3 0 [.ref b4, .int (iI 0)], aC t b4 60 z0, aI t b5 60 z0, aZ t b6 500 z0, oB b7 1 [.ref (v 0), .ref (v 4), .int (iI 0), .int (iI 0), .ref (v 5), .int (iI 0), .int (iI 0)], oB (v 0) 3 [.ref (v 1), .ref (v 2), .ref (v 3), .int (iI 0)], aI t (v 1) 120 z0, aI t (v 2) 120 z0, aZ t (v 3) 120 z0, aI t (v 4) 120 z0, aI t (v 5) 30 z0] (((((SC ++ S09) ++ S19) ++ S29) ++ S39) ++ S49)) ?_
  refine V_iinc (a := 5) (n := 1) hc dX4_init_99 0 rfl [(1, .int (iI 6)), (0, .ref h)] (Nat.le_of_ble_eq_true rfl) rfl ?_
  refine V_goto (tgt := 80) hc dX4_init_102 rfl ?_
  refine V_iload_n hc dX4_init_80 0 rfl ?_
  refine V_bipush hc dX4_init_81 rfl ?_
  refine V_icmp_ge (X := True) (Y := False) (tgt := 105) hc dX4_init_83 rfl (by decide) (fun _ => ?_) (fun h => h.elim)
  refine V_iconst hc dX4_init_105 ?_
  refine V_istore_n hc dX4_init_106 [(1, .int (iI 0)), (0, .ref h)] (Nat.le_of_ble_eq_true rfl) rfl ?_
  refine V_iload_n hc dX4_init_107 0 rfl ?_
  refine V_iconst hc dX4_init_108 ?_
  refine V_icmp_ge (X := False) (Y := True) (tgt := 131) hc dX4_init_109 rfl (by decide) (fun h => h.elim) (fun _ => ?_)
  refine V_aload_n hc dX4_init_112 1 rfl ?_
  refine V_get (C := RX4) (T := TX4) (N := 9) hc i_X4_init 0 rfl rfl 3 (Nat.le_of_ble_eq_true rfl) m_X4_init_f20 rfl dX4_init_113 ?_
  refine V_iload_n hc dX4_init_116 0 rfl ?_
  refine V_newObj (C := RX2) (T := TX2) (N := 4) (mc := 13) (ms := 895) hc hF [.null, .null, .null, .null] rfl i2_X4_init tyX2 tyX2_ok m_X4_init_cl2 m_X4_init_in2 m_X4_init_it2 df_X2 (fun q9 => met_X2_init l D t q9) (by decide +kernel) gX4_init_X2_init_n9 rfl ⟨rfl, rfl⟩ ok_X2_init m_X4_init_im2 ⟨Nat.le_of_ble_eq_true rfl, Nat.le_of_ble_eq_true rfl⟩ (Nat.le_of_ble_eq_true rfl) dX4_init_117 dX4_init_120 dX4_init_121 ⟨Nat.le_of_ble_eq_true rfl, Nat.le_of_ble_eq_true rfl⟩ (fun nq0 nu0 hp9 => ?_)
  refine V_aast (X := True) hc 16 0 rfl rfl (Nat.le_of_ble_eq_true rfl) (by decide) dX4_init_124 (stW t (sA nq0 nu0) u0 ++ ([oB h 4 [.ref qs, .ref b0, .int (iI 0), .ref b1, .ref b2, .ref b3, .ref b5, .ref b6, .ref b7], aQ t b0 6 (va_up (va_up (va_up (va_up (va_up (va_up (fun _ => none) 0 (some sq0)) 1 (some sq1)) 2 (some sq2)) 3 (some sq3)) 4 (some sq4)) 5 (some sq5)), aQ t b1 2 (va_up (fun _ => none) 0 (some nq0)), aZ t b2 2 z0, oB b3 0 [.ref b4, .int (iI 0)], aC t b4 60 z0, aI t b5 60 z0, aZ t b6 500 z0, oB b7 1 [.ref (v 0), .ref (v 4), .int (iI 0), .int (iI 0), .ref (v 5), .int (iI 0), .int (iI 0)], oB (v 0) 3 [.ref (v 1), .ref (v 2), .ref (v 3), .int (iI 0)], aI t (v 1) 120 z0, aI t (v 2) 120 z0, aZ t (v 3) 120 z0, aI t (v 4) 120 z0, aI t (v 5) 30 z0] ++ ((((((SC ++ S09) ++ S19) ++ S29) ++ S39) ++ S49) ++ S59))) rfl (fun _ => ?_)
  generalize hn0 : stW t (sA nq0 nu0) u0 = N09
  refine V_pm (ws1 := [oB h 4 [.ref qs, .ref b0, .int (iI 0), .ref b1, .ref b2, .ref b3, .ref b5, .ref b6, .ref b7], aQ t b0 6 (va_up (va_up (va_up (va_up (va_up (va_up (fun _ => none) 0 (some sq0)) 1 (some sq1)) 2 (some sq2)) 3 (some sq3)) 4 (some sq4)) 5 (some sq5)), aQ t b1 2 (va_up (fun _ => none) 0 (some nq0)), aZ t b2 2 z0, oB b3 0 [.ref b4, .int (iI 0)], aC t b4 60 z0, aI t b5 60 z0, aZ t b6 500 z0, oB b7 1 [.ref (v 0), .ref (v 4), .int (iI 0), .int (iI 0), .ref (v 5), .int (iI 0), .int (iI 0)], oB (v 0) 3 [.ref (v 1), .ref (v 2), .ref (v 3), .int (iI 0)], aI t (v 1) 120 z0, aI t (v 2) 120 z0, aZ t (v 3) 120 z0, aI t (v 4) 120 z0, aI t (v 5) 30 z0] ++ (((((((SC ++ S09) ++ S19) ++ S29) ++ S39) ++ S49) ++ S59) ++ N09)) (pmT N09 [oB h 4 [.ref qs, .ref b0, .int (iI 0), .ref b1, .ref b2, .ref b3, .ref b5, .ref b6, .ref b7], aQ t b0 6 (va_up (va_up (va_up (va_up (va_up (va_up (fun _ => none) 0 (some sq0)) 1 (some sq1)) 2 (some sq2)) 3 (some sq3)) 4 (some sq4)) 5 (some sq5)), aQ t b1 2 (va_up (fun _ => none) 0 (some nq0)), aZ t b2 2 z0, oB b3 0 [.ref b4, .int (iI 0)], aC t b4 60 z0, aI t b5 60 z0, aZ t b6 500 z0, oB b7 1 [.ref (v 0), .ref (v 4), .int (iI 0), .int (iI 0), .ref (v 5), .int (iI 0), .int (iI 0)], oB (v 0) 3 [.ref (v 1), .ref (v 2), .ref (v 3), .int (iI 0)], aI t (v 1) 120 z0, aI t (v 2) 120 z0, aZ t (v 3) 120 z0, aI t (v 4) 120 z0, aI t (v 5) 30 z0] ((((((SC ++ S09) ++ S19) ++ S29) ++ S39) ++ S49) ++ S59)) ?_
  refine V_iinc (a := 0) (n := 1) hc dX4_init_125 0 rfl [(1, .int (iI 1)), (0, .ref h)] (Nat.le_of_ble_eq_true rfl) rfl ?_
  refine V_goto (tgt := 107) hc dX4_init_128 rfl ?_
  refine V_iload_n hc dX4_init_107 0 rfl ?_
  refine V_iconst hc dX4_init_108 ?_
  refine V_icmp_ge (X := False) (Y := True) (tgt := 131) hc dX4_init_109 rfl (by decide) (fun h => h.elim) (fun _ => ?_)
  refine V_aload_n hc dX4_init_112 1 rfl ?_
  refine V_get (C := RX4) (T := TX4) (N := 9) hc i_X4_init 0 rfl rfl 3 (Nat.le_of_ble_eq_true rfl) m_X4_init_f20 rfl dX4_init_113 ?_
  refine V_iload_n hc dX4_init_116 0 rfl ?_
  refine V_newObj (C := RX2) (T := TX2) (N := 4) (mc := 13) (ms := 895) hc hF [.null, .null, .null, .null] rfl i2_X4_init tyX2 tyX2_ok m_X4_init_cl2 m_X4_init_in2 m_X4_init_it2 df_X2 (fun q9 => met_X2_init l D t q9) (by decide +kernel) gX4_init_X2_init_n9 rfl ⟨rfl, rfl⟩ ok_X2_init m_X4_init_im2 ⟨Nat.le_of_ble_eq_true rfl, Nat.le_of_ble_eq_true rfl⟩ (Nat.le_of_ble_eq_true rfl) dX4_init_117 dX4_init_120 dX4_init_121 ⟨Nat.le_of_ble_eq_true rfl, Nat.le_of_ble_eq_true rfl⟩ (fun nq1 nu1 hp9 => ?_)
  refine V_aast (X := True) hc 16 0 rfl rfl (Nat.le_of_ble_eq_true rfl) (by decide) dX4_init_124 (stW t (sA nq1 nu1) u0 ++ ([oB h 4 [.ref qs, .ref b0, .int (iI 0), .ref b1, .ref b2, .ref b3, .ref b5, .ref b6, .ref b7], aQ t b0 6 (va_up (va_up (va_up (va_up (va_up (va_up (fun _ => none) 0 (some sq0)) 1 (some sq1)) 2 (some sq2)) 3 (some sq3)) 4 (some sq4)) 5 (some sq5)), aQ t b1 2 (va_up (va_up (fun _ => none) 0 (some nq0)) 1 (some nq1)), aZ t b2 2 z0, oB b3 0 [.ref b4, .int (iI 0)], aC t b4 60 z0, aI t b5 60 z0, aZ t b6 500 z0, oB b7 1 [.ref (v 0), .ref (v 4), .int (iI 0), .int (iI 0), .ref (v 5), .int (iI 0), .int (iI 0)], oB (v 0) 3 [.ref (v 1), .ref (v 2), .ref (v 3), .int (iI 0)], aI t (v 1) 120 z0, aI t (v 2) 120 z0, aZ t (v 3) 120 z0, aI t (v 4) 120 z0, aI t (v 5) 30 z0] ++ (((((((SC ++ S09) ++ S19) ++ S29) ++ S39) ++ S49) ++ S59) ++ N09))) rfl (fun _ => ?_)
  generalize hn1 : stW t (sA nq1 nu1) u0 = N19
  refine V_pm (ws1 := [oB h 4 [.ref qs, .ref b0, .int (iI 0), .ref b1, .ref b2, .ref b3, .ref b5, .ref b6, .ref b7], aQ t b0 6 (va_up (va_up (va_up (va_up (va_up (va_up (fun _ => none) 0 (some sq0)) 1 (some sq1)) 2 (some sq2)) 3 (some sq3)) 4 (some sq4)) 5 (some sq5)), aQ t b1 2 (va_up (va_up (fun _ => none) 0 (some nq0)) 1 (some nq1)), aZ t b2 2 z0, oB b3 0 [.ref b4, .int (iI 0)], aC t b4 60 z0, aI t b5 60 z0, aZ t b6 500 z0, oB b7 1 [.ref (v 0), .ref (v 4), .int (iI 0), .int (iI 0), .ref (v 5), .int (iI 0), .int (iI 0)], oB (v 0) 3 [.ref (v 1), .ref (v 2), .ref (v 3), .int (iI 0)], aI t (v 1) 120 z0, aI t (v 2) 120 z0, aZ t (v 3) 120 z0, aI t (v 4) 120 z0, aI t (v 5) 30 z0] ++ ((((((((SC ++ S09) ++ S19) ++ S29) ++ S39) ++ S49) ++ S59) ++ N09) ++ N19)) (pmT N19 [oB h 4 [.ref qs, .ref b0, .int (iI 0), .ref b1, .ref b2, .ref b3, .ref b5, .ref b6, .ref b7], aQ t b0 6 (va_up (va_up (va_up (va_up (va_up (va_up (fun _ => none) 0 (some sq0)) 1 (some sq1)) 2 (some sq2)) 3 (some sq3)) 4 (some sq4)) 5 (some sq5)), aQ t b1 2 (va_up (va_up (fun _ => none) 0 (some nq0)) 1 (some nq1)), aZ t b2 2 z0, oB b3 0 [.ref b4, .int (iI 0)], aC t b4 60 z0, aI t b5 60 z0, aZ t b6 500 z0, oB b7 1 [.ref (v 0), .ref (v 4), .int (iI 0), .int (iI 0), .ref (v 5), .int (iI 0), .int (iI 0)], oB (v 0) 3 [.ref (v 1), .ref (v 2), .ref (v 3), .int (iI 0)], aI t (v 1) 120 z0, aI t (v 2) 120 z0, aZ t (v 3) 120 z0, aI t (v 4) 120 z0, aI t (v 5) 30 z0] (((((((SC ++ S09) ++ S19) ++ S29) ++ S39) ++ S49) ++ S59) ++ N09)) ?_
  refine V_iinc (a := 1) (n := 1) hc dX4_init_125 0 rfl [(1, .int (iI 2)), (0, .ref h)] (Nat.le_of_ble_eq_true rfl) rfl ?_
  refine V_goto (tgt := 107) hc dX4_init_128 rfl ?_
  refine V_iload_n hc dX4_init_107 0 rfl ?_
  refine V_iconst hc dX4_init_108 ?_
  refine V_icmp_ge (X := True) (Y := False) (tgt := 131) hc dX4_init_109 rfl (by decide) (fun _ => ?_) (fun h => h.elim)
  refine V_aqE 1 (svR (fun i => match i with | 0 => sA sq0 su0 | 1 => sA sq1 su1 | 2 => sA sq2 su2 | 3 => sA sq3 su3 | 4 => sA sq4 su4 | _ => sA sq5 su5)) rfl (fun i hi => match i, hi with | 0, _ => rfl | 1, _ => rfl | 2, _ => rfl | 3, _ => rfl | 4, _ => rfl | 5, _ => rfl) ([oB h 4 [.ref qs, .ref b0, .int (iI 0), .ref b1, .ref b2, .ref b3, .ref b5, .ref b6, .ref b7], aQ t b0 6 (svR (fun i => match i with | 0 => sA sq0 su0 | 1 => sA sq1 su1 | 2 => sA sq2 su2 | 3 => sA sq3 su3 | 4 => sA sq4 su4 | _ => sA sq5 su5)), aQ t b1 2 (va_up (va_up (fun _ => none) 0 (some nq0)) 1 (some nq1)), aZ t b2 2 z0, oB b3 0 [.ref b4, .int (iI 0)], aC t b4 60 z0, aI t b5 60 z0, aZ t b6 500 z0, oB b7 1 [.ref (v 0), .ref (v 4), .int (iI 0), .int (iI 0), .ref (v 5), .int (iI 0), .int (iI 0)], oB (v 0) 3 [.ref (v 1), .ref (v 2), .ref (v 3), .int (iI 0)], aI t (v 1) 120 z0, aI t (v 2) 120 z0, aZ t (v 3) 120 z0, aI t (v 4) 120 z0, aI t (v 5) 30 z0] ++ ((((((((SC ++ S09) ++ S19) ++ S29) ++ S39) ++ S49) ++ S59) ++ N09) ++ N19)) rfl ?_
  refine V_aqE 2 (svR (fun i => match i with | 0 => sA nq0 nu0 | _ => sA nq1 nu1)) rfl (fun i hi => match i, hi with | 0, _ => rfl | 1, _ => rfl) ([oB h 4 [.ref qs, .ref b0, .int (iI 0), .ref b1, .ref b2, .ref b3, .ref b5, .ref b6, .ref b7], aQ t b0 6 (svR (fun i => match i with | 0 => sA sq0 su0 | 1 => sA sq1 su1 | 2 => sA sq2 su2 | 3 => sA sq3 su3 | 4 => sA sq4 su4 | _ => sA sq5 su5)), aQ t b1 2 (svR (fun i => match i with | 0 => sA nq0 nu0 | _ => sA nq1 nu1)), aZ t b2 2 z0, oB b3 0 [.ref b4, .int (iI 0)], aC t b4 60 z0, aI t b5 60 z0, aZ t b6 500 z0, oB b7 1 [.ref (v 0), .ref (v 4), .int (iI 0), .int (iI 0), .ref (v 5), .int (iI 0), .int (iI 0)], oB (v 0) 3 [.ref (v 1), .ref (v 2), .ref (v 3), .int (iI 0)], aI t (v 1) 120 z0, aI t (v 2) 120 z0, aZ t (v 3) 120 z0, aI t (v 4) 120 z0, aI t (v 5) 30 z0] ++ ((((((((SC ++ S09) ++ S19) ++ S29) ++ S39) ++ S49) ++ S59) ++ N09) ++ N19)) rfl ?_
  refine V_weq (ws1 := W1_X4_init t h ((fun i => match i with | 0 => b0 | 1 => b1 | 2 => b2 | 3 => b3 | 4 => b4 | 5 => b5 | 6 => b6 | 7 => b7 | 8 => v 0 | 9 => v 1 | 10 => v 2 | 11 => v 3 | 12 => v 4 | _ => v 5), sA qs us, (fun i => match i with | 0 => sA sq0 su0 | 1 => sA sq1 su1 | 2 => sA sq2 su2 | 3 => sA sq3 su3 | 4 => sA sq4 su4 | _ => sA sq5 su5), (fun i => match i with | 0 => sA nq0 nu0 | _ => sA nq1 nu1))) ?_ (V_vret hc hr ((fun i => match i with | 0 => b0 | 1 => b1 | 2 => b2 | 3 => b3 | 4 => b4 | 5 => b5 | 6 => b6 | 7 => b7 | 8 => v 0 | 9 => v 1 | 10 => v 2 | 11 => v 3 | 12 => v 4 | _ => v 5), sA qs us, (fun i => match i with | 0 => sA sq0 su0 | 1 => sA sq1 su1 | 2 => sA sq2 su2 | 3 => sA sq3 su3 | 4 => sA sq4 su4 | _ => sA sq5 su5), (fun i => match i with | 0 => sA nq0 nu0 | _ => sA nq1 nu1)) trivial rfl dX4_init_131)
  subst hst; subst hs0; subst hs1; subst hs2; subst hs3; subst hs4; subst hs5; subst hn0; subst hn1
  exact pm9e _ _ _ _ _ _ _ _ _ _
def zM : Nat → Int := uI (uI (uI z0 636 50) 637 10) 638 2
