abbrev W1_X5_thrown (t : Nat → ClassId) (hM : Nat) (zA : Nat) (spA : Nat) (svA : Nat) (soA : Nat) (ikA : Nat) (txA : Nat) (viA : Nat) (srA : Nat) (frA : Nat) (toA : Nat) (hoA : Nat) (keA : Nat) (nsv : Int) (len : Int) (thr : Int) (nvi : Int) (low : Int) (high : Int) (nto : Int) (spo : Int) (mos : Int) (z : Nat → Int) (sp : Nat → Int) (sv : Nat → Int) (so : Nat → Int) (ik : Nat → Int) (tx : Nat → Int) (vi : Nat → Int) (sr : Nat → Int) (fr : Nat → Int) (to : Nat → Int) (ho : Nat → Int) (ke : Nat → Int) (u : Unit) : va_W := [oB hM 5 [.ref zA, .ref spA, .ref svA, .int (iI nsv), .ref soA, .ref ikA, .ref txA, .int (iI len), .int (iI thr), .int (iI nvi), .ref viA, .int (iI low), .int (iI high), .ref srA, .ref frA, .ref toA, .ref hoA, .ref keA, .int (iI nto), .int (iI spo), .int (iI mos)], aI t zA 646 z, aI t spA 646 sp, aI t svA 3876 sv, aI t soA 1292 so, aZ t ikA 2 ik, aI t txA 60 tx, aI t viA 120 vi, aI t srA 120 sr, aI t frA 122 fr, aI t toA 122 to, aI t hoA 31 ho, aI t keA 31 ke]
abbrev po_X5_thrown (Q : Int → Prop) (r : Int) (u : Unit) : Prop := Q r
abbrev rm_X5_thrown : Room := { frames := 0, cells := 0, slots := 0, locals := 0 }
def wp_X5_thrown (thr : Int) (Q : Int → Prop) : Prop := Q thr
theorem m_X5_thrown_47 : Cond.fieldLink RX5 47 "BackgroundRebuildModel" "thrown" "I" ∈ wsX5_thrown := by decide +kernel
theorem i_X5_thrown_5 : ∀ w ∈ u_ws RX5 TX5 21, w ∈ wsX5_thrown := by decide +kernel
theorem ok_X5_thrown : yX5_thrown.cls = RX5 ∧ yX5_thrown.cls ≠ "java/lang/invoke/MethodHandle" ∧ yX5_thrown.cls ≠ "java/lang/invoke/VarHandle" ∧ (parseMethodDescriptor yX5_thrown.desc).map (fun d => d.parameters.length) = some 0 := by decide +kernel
set_option maxHeartbeats 4000000 in
set_option maxRecDepth 100000 in
theorem met_X5_thrown (l : Launch) (D : va_G) (t : Nat → ClassId) (hM : Nat) (zA : Nat) (spA : Nat) (svA : Nat) (soA : Nat) (ikA : Nat) (txA : Nat) (viA : Nat) (srA : Nat) (frA : Nat) (toA : Nat) (hoA : Nat) (keA : Nat) (nsv : Int) (len : Int) (thr : Int) (nvi : Int) (low : Int) (high : Int) (nto : Int) (spo : Int) (mos : Int) (z : Nat → Int) (sp : Nat → Int) (sv : Nat → Int) (so : Nat → Int) (ik : Nat → Int) (tx : Nat → Int) (vi : Nat → Int) (sr : Nat → Int) (fr : Nat → Int) (to : Nat → Int) (ho : Nat → Int) (ke : Nat → Int) (Q : Int → Prop) (hv : wp_X5_thrown thr Q) : MI l D t yX5_thrown wsX5_thrown rm_X5_thrown [.ref hM] [oB hM 5 [.ref zA, .ref spA, .ref svA, .int (iI nsv), .ref soA, .ref ikA, .ref txA, .int (iI len), .int (iI thr), .int (iI nvi), .ref viA, .int (iI low), .int (iI high), .ref srA, .ref frA, .ref toA, .ref hoA, .ref keA, .int (iI nto), .int (iI spo), .int (iI mos)], aI t zA 646 z, aI t spA 646 sp, aI t svA 3876 sv, aI t soA 1292 so, aZ t ikA 2 ik, aI t txA 60 tx, aI t viA 120 vi, aI t srA 120 sr, aI t frA 122 fr, aI t toA 122 to, aI t hoA 31 ho, aI t keA 31 ke] (W1_X5_thrown t hM zA spA svA soA ikA txA viA srA frA toA hoA keA nsv len thr nvi low high nto spo mos z sp sv so ik tx vi sr fr to ho ke) (po_X5_thrown Q) 0 0 := by
  refine M_ofi (cc := cX5_thrown) (nL := 1) (by decide) rfl (Nat.le_of_ble_eq_true rfl) ?_
  intro p e s m args below meth c A hc hr
  refine V_lv [0] [(0, .ref hM)] rfl ?_
  unfold wp_X5_thrown at hv
  refine V_aload_n hc dX5_thrown_0 0 rfl ?_
  refine V_get (C := RX5) (T := TX5) (N := 21) hc i_X5_thrown_5 0 rfl rfl 8 (by decide) m_X5_thrown_47 rfl dX5_thrown_1 ?_
  exact V_iret hc hr () hv rfl dX5_thrown_4
abbrev W1_X5_refused (t : Nat → ClassId) (hM : Nat) (zA : Nat) (spA : Nat) (svA : Nat) (soA : Nat) (ikA : Nat) (txA : Nat) (viA : Nat) (srA : Nat) (frA : Nat) (toA : Nat) (hoA : Nat) (keA : Nat) (nsv : Int) (len : Int) (nvi : Int) (low : Int) (high : Int) (nto : Int) (spo : Int) (mos : Int) (z : Nat → Int) (sp : Nat → Int) (sv : Nat → Int) (so : Nat → Int) (ik : Nat → Int) (tx : Nat → Int) (vi : Nat → Int) (sr : Nat → Int) (fr : Nat → Int) (to : Nat → Int) (ho : Nat → Int) (ke : Nat → Int) (u : (Int)) : va_W := [oB hM 5 [.ref zA, .ref spA, .ref svA, .int (iI nsv), .ref soA, .ref ikA, .ref txA, .int (iI len), .int (iI u), .int (iI nvi), .ref viA, .int (iI low), .int (iI high), .ref srA, .ref frA, .ref toA, .ref hoA, .ref keA, .int (iI nto), .int (iI spo), .int (iI mos)], aI t zA 646 z, aI t spA 646 sp, aI t svA 3876 sv, aI t soA 1292 so, aZ t ikA 2 ik, aI t txA 60 tx, aI t viA 120 vi, aI t srA 120 sr, aI t frA 122 fr, aI t toA 122 to, aI t hoA 31 ho, aI t keA 31 ke]
abbrev po_X5_refused (Q : Int → (Int) → Prop) (r : Int) (u : (Int)) : Prop := Q r u
abbrev rm_X5_refused : Room := { frames := 0, cells := 0, slots := 0, locals := 0 }
def wp_X5_refused (thr : Int) (x1 : Int) (Q : Int → (Int) → Prop) : Prop := inR x1 ∧ (x1 ≤ 0 → Q 0 x1) ∧ (¬ (x1 ≤ 0) → Q 1 x1)
theorem m_X5_refused_47 : Cond.fieldLink RX5 47 "BackgroundRebuildModel" "thrown" "I" ∈ wsX5_refused := by decide +kernel
theorem i_X5_refused_5 : ∀ w ∈ u_ws RX5 TX5 21, w ∈ wsX5_refused := by decide +kernel
theorem ok_X5_refused : yX5_refused.cls = RX5 ∧ yX5_refused.cls ≠ "java/lang/invoke/MethodHandle" ∧ yX5_refused.cls ≠ "java/lang/invoke/VarHandle" ∧ (parseMethodDescriptor yX5_refused.desc).map (fun d => d.parameters.length) = some 1 := by decide +kernel
set_option maxHeartbeats 4000000 in
set_option maxRecDepth 100000 in
theorem met_X5_refused (l : Launch) (D : va_G) (t : Nat → ClassId) (hM : Nat) (zA : Nat) (spA : Nat) (svA : Nat) (soA : Nat) (ikA : Nat) (txA : Nat) (viA : Nat) (srA : Nat) (frA : Nat) (toA : Nat) (hoA : Nat) (keA : Nat) (nsv : Int) (len : Int) (thr : Int) (nvi : Int) (low : Int) (high : Int) (nto : Int) (spo : Int) (mos : Int) (z : Nat → Int) (sp : Nat → Int) (sv : Nat → Int) (so : Nat → Int) (ik : Nat → Int) (tx : Nat → Int) (vi : Nat → Int) (sr : Nat → Int) (fr : Nat → Int) (to : Nat → Int) (ho : Nat → Int) (ke : Nat → Int) (x1 : Int) (Q : Int → (Int) → Prop) (hv : wp_X5_refused thr x1 Q) : MI l D t yX5_refused wsX5_refused rm_X5_refused [.ref hM, .int (iI x1)] [oB hM 5 [.ref zA, .ref spA, .ref svA, .int (iI nsv), .ref soA, .ref ikA, .ref txA, .int (iI len), .int (iI thr), .int (iI nvi), .ref viA, .int (iI low), .int (iI high), .ref srA, .ref frA, .ref toA, .ref hoA, .ref keA, .int (iI nto), .int (iI spo), .int (iI mos)], aI t zA 646 z, aI t spA 646 sp, aI t svA 3876 sv, aI t soA 1292 so, aZ t ikA 2 ik, aI t txA 60 tx, aI t viA 120 vi, aI t srA 120 sr, aI t frA 122 fr, aI t toA 122 to, aI t hoA 31 ho, aI t keA 31 ke] (W1_X5_refused t hM zA spA svA soA ikA txA viA srA frA toA hoA keA nsv len nvi low high nto spo mos z sp sv so ik tx vi sr fr to ho ke) (po_X5_refused Q) 0 0 := by
  refine M_ofz (cc := cX5_refused) (nL := 2) (by decide) rfl (Nat.le_of_ble_eq_true rfl) ?_
  intro p e s m args below meth c A hc hr
  refine V_lv [0, 1] [(0, .ref hM), (1, .int (iI x1))] rfl ?_
  unfold wp_X5_refused at hv
  refine V_aload_n hc dX5_refused_0 0 rfl ?_
  refine V_iload_n hc dX5_refused_1 1 rfl ?_
  refine V_puti (C := RX5) (T := TX5) (N := 21) hc i_X5_refused_5 0 rfl rfl 8 (by decide) m_X5_refused_47 tyX5 tyX5_ok nmX5 rfl (by decide +kernel) (Nat.le_of_ble_eq_true rfl) dX5_refused_2 [oB hM 5 [.ref zA, .ref spA, .ref svA, .int (iI nsv), .ref soA, .ref ikA, .ref txA, .int (iI len), .int (iI x1), .int (iI nvi), .ref viA, .int (iI low), .int (iI high), .ref srA, .ref frA, .ref toA, .ref hoA, .ref keA, .int (iI nto), .int (iI spo), .int (iI mos)], aI t zA 646 z, aI t spA 646 sp, aI t svA 3876 sv, aI t soA 1292 so, aZ t ikA 2 ik, aI t txA 60 tx, aI t viA 120 vi, aI t srA 120 sr, aI t frA 122 fr, aI t toA 122 to, aI t hoA 31 ho, aI t keA 31 ke] rfl ?_
  refine V_iload_n hc dX5_refused_5 1 rfl ?_
  refine V_if_le (tgt := 13) hc dX5_refused_6 (by decide) hv (fun hv => ?_) (fun hv => ?_)
  · refine V_iconst hc dX5_refused_13 ?_
    exact V_zret hc hr x1 ⟨by decide, hv⟩ rfl dX5_refused_14
  · refine V_iconst hc dX5_refused_9 ?_
    refine V_goto (tgt := 14) hc dX5_refused_10 (by decide) ?_
    exact V_zret hc hr x1 ⟨by decide, hv⟩ rfl dX5_refused_14
abbrev W1_X5_in (t : Nat → ClassId) (u : Unit) : va_W := []
abbrev po_X5_in (Q : Int → Prop) (r : Int) (u : Unit) : Prop := Q r
abbrev rm_X5_in : Room := { frames := 0, cells := 0, slots := 0, locals := 0 }
def wp_X5_in (x0 : Int) (x1 : Int) (x2 : Int) (Q : Int → Prop) : Prop := inR x0 ∧ inR x1 ∧ (x0 < x1 → Q 0) ∧ (¬ (x0 < x1) → inR x0 ∧ inR x2 ∧ (x0 > x2 → Q 0) ∧ (¬ (x0 > x2) → Q 1))
theorem ok_X5_in : yX5_in.cls ≠ "java/lang/invoke/MethodHandle" ∧ yX5_in.cls ≠ "java/lang/invoke/VarHandle" ∧ (parseMethodDescriptor yX5_in.desc).map (fun d => d.parameters.length) = some 3 := by decide +kernel
set_option maxHeartbeats 4000000 in
set_option maxRecDepth 100000 in
theorem met_X5_in (l : Launch) (D : va_G) (t : Nat → ClassId) (x0 : Int) (x1 : Int) (x2 : Int) (Q : Int → Prop) (hv : wp_X5_in x0 x1 x2 Q) : MI l D t yX5_in wsX5_in rm_X5_in [.int (iI x0), .int (iI x1), .int (iI x2)] [] (W1_X5_in t ) (po_X5_in Q) 0 0 := by
  refine M_ofz (cc := cX5_in) (nL := 3) (by decide) rfl (Nat.le_of_ble_eq_true rfl) ?_
  intro p e s m args below meth c A hc hr
  refine V_lv [0, 1, 2] [(0, .int (iI x0)), (1, .int (iI x1)), (2, .int (iI x2))] rfl ?_
  unfold wp_X5_in at hv
  refine V_iload_n hc dX5_in_0 0 rfl ?_
  refine V_iload_n hc dX5_in_1 1 rfl ?_
  refine V_icmp_lt (tgt := 14) hc dX5_in_2 (by decide) hv (fun hv => ?_) (fun hv => ?_)
  · refine V_iconst hc dX5_in_14 ?_
    exact V_zret hc hr () ⟨by decide, hv⟩ rfl dX5_in_15
  · refine V_iload_n hc dX5_in_5 0 rfl ?_
    refine V_iload_n hc dX5_in_6 2 rfl ?_
    refine V_icmp_gt (tgt := 14) hc dX5_in_7 (by decide) hv (fun hv => ?_) (fun hv => ?_)
    · refine V_iconst hc dX5_in_14 ?_
      exact V_zret hc hr () ⟨by decide, hv⟩ rfl dX5_in_15
    · refine V_iconst hc dX5_in_10 ?_
      refine V_goto (tgt := 15) hc dX5_in_11 (by decide) ?_
      exact V_zret hc hr () ⟨by decide, hv⟩ rfl dX5_in_15
abbrev W1_X5_isKey (t : Nat → ClassId) (u : Unit) : va_W := []
abbrev po_X5_isKey (Q : Int → Prop) (r : Int) (u : Unit) : Prop := Q r
abbrev rm_X5_isKey : Room := { frames := 1, cells := 0, slots := 0, locals := 22 }
def wp_X5_isKey (x0 : Int) (Q : Int → Prop) : Prop := wp_X5_in x0 0 499 (fun r_1 => (r_1 = 0 ∨ r_1 = 1) ∧ Q r_1)
theorem ok_X5_isKey : yX5_isKey.cls ≠ "java/lang/invoke/MethodHandle" ∧ yX5_isKey.cls ≠ "java/lang/invoke/VarHandle" ∧ (parseMethodDescriptor yX5_isKey.desc).map (fun d => d.parameters.length) = some 1 := by decide +kernel
set_option maxHeartbeats 4000000 in
set_option maxRecDepth 100000 in
theorem met_X5_isKey (l : Launch) (D : va_G) (t : Nat → ClassId) (x0 : Int) (Q : Int → Prop) (hv : wp_X5_isKey x0 Q) : MI l D t yX5_isKey wsX5_isKey rm_X5_isKey [.int (iI x0)] [] (W1_X5_isKey t ) (po_X5_isKey Q) 0 0 := by
  refine M_ofz (cc := cX5_isKey) (nL := 1) (by decide) rfl (Nat.le_of_ble_eq_true rfl) ?_
  intro p e s m args below meth c A hc hr
  refine V_lv [0] [(0, .int (iI x0))] rfl ?_
  unfold wp_X5_isKey at hv
  refine V_iload_n hc dX5_isKey_0 0 rfl ?_
  refine V_iconst hc dX5_isKey_1 ?_
  refine V_sipush hc dX5_isKey_2 (by decide) ?_
  refine V_callSI (As := [.int (iI x0), .int (iI 0), .int (iI 499)]) hc (wc := []) (wr := []) (pmI (ws := []) (ws1 := [] ++ []) [] 0 rfl (by decide +kernel) rfl) (met_X5_in l D t x0 0 499 _ hv) rfl gX5_isKey_X5_in rfl ⟨rfl, rfl⟩ ok_X5_in (by decide) (Nat.le_of_ble_eq_true rfl) dX5_isKey_5 (by decide) (fun r_1 _ hv => ?_)
  try dsimp only at hv
  refine V_perm (ws1 := []) (pmI (ws := [] ++ []) (ws1 := []) [] 0 rfl (by decide +kernel) rfl) ?_
  exact V_zret hc hr () hv rfl dX5_isKey_8
abbrev W1_X5_copyState (t : Nat → ClassId) (hP : Nat) (hP2 : Nat) (NP : Nat) (NP2 : Nat) (aP : Nat → Int) (u : (Nat → Int)) : va_W := [aI t hP NP aP, aI t hP2 NP2 u]
abbrev po_X5_copyState (Q : (Nat → Int) → Prop) (u : (Nat → Int)) : Prop := Q u
abbrev rm_X5_copyState : Room := { frames := 0, cells := 0, slots := 0, locals := 0 }
def wp_X5_copyState_3 (NP : Nat) (NP2 : Nat) (aP : Nat → Int) (x1 : Int) (x3 : Int) (Q : (Nat → Int) → Prop) (K_3 : (Nat → Int) → Int → Prop) (aP2 : Nat → Int) (x4 : Int) : Prop := inR x4 ∧ (x4 ≥ 646 → Q aP2) ∧ (¬ (x4 ≥ 646) → (0 ≤ x1 + x4 ∧ x1 + x4 < (NP : Int)) ∧ (0 ≤ x3 + x4 ∧ x3 + x4 < (NP2 : Int)) ∧ K_3 (uI aP2 ((x3 + x4).toNat) (aP (x1 + x4).toNat)) (x4 + 1))
def wp_X5_copyState (NP : Nat) (NP2 : Nat) (aP : Nat → Int) (aP2 : Nat → Int) (x1 : Int) (x3 : Int) (Q : (Nat → Int) → Prop) : Prop := (∃ n, lq2 (wp_X5_copyState_3 NP NP2 aP x1 x3 Q) n aP2 0)
theorem ok_X5_copyState : yX5_copyState.cls ≠ "java/lang/invoke/MethodHandle" ∧ yX5_copyState.cls ≠ "java/lang/invoke/VarHandle" ∧ (parseMethodDescriptor yX5_copyState.desc).map (fun d => d.parameters.length) = some 4 := by decide +kernel
set_option maxHeartbeats 4000000 in
set_option maxRecDepth 100000 in
theorem met_X5_copyState (l : Launch) (D : va_G) (t : Nat → ClassId) (hP : Nat) (hP2 : Nat) (NP : Nat) (NP2 : Nat) (hNP : NP < 2147483648) (hNP2 : NP2 < 2147483648) (aP : Nat → Int) (aP2 : Nat → Int) (x1 : Int) (x3 : Int) (Q : (Nat → Int) → Prop) (hv : wp_X5_copyState NP NP2 aP aP2 x1 x3 Q) : MV l D t yX5_copyState wsX5_copyState rm_X5_copyState [.ref hP, .int (iI x1), .ref hP2, .int (iI x3)] [aI t hP NP aP, aI t hP2 NP2 aP2] (W1_X5_copyState t hP hP2 NP NP2 aP) (po_X5_copyState Q) 0 0 := by
  refine M_ofv (cc := cX5_copyState) (nL := 5) (by decide) rfl (Nat.le_of_ble_eq_true rfl) ?_
  intro p e s m args below meth c A hc hr
  have L_3 : ∀ (aP : Nat → Int) (x1 : Int) (x3 : Int) (n9 : Nat) (aP2 : Nat → Int) (x4 : Int), lq2 (wp_X5_copyState_3 NP NP2 aP x1 x3 Q) n9 aP2 x4 → V p l e rm_X5_copyState s m args below meth c D A 5 0 0 (MQ below (QV D A (W1_X5_copyState t hP hP2 NP NP2 aP) (po_X5_copyState Q)) args s 0 0 A) 3 [(0, .ref hP), (1, .int (iI x1)), (2, .ref hP2), (3, .int (iI x3)), (4, .int (iI x4))] [] [aI t hP NP aP, aI t hP2 NP2 aP2] := by
    intro aP x1 x3 n9
    induction n9 with
    | zero =>
      intro aP2 x4 hv
      exact hv.elim
    | succ n9 ih =>
      intro aP2 x4 hv
      have hv : wp_X5_copyState_3 NP NP2 aP x1 x3 Q (lq2 (wp_X5_copyState_3 NP NP2 aP x1 x3 Q) n9) aP2 x4 := hv
      generalize lq2 (wp_X5_copyState_3 NP NP2 aP x1 x3 Q) n9 = K_3 at hv ih
      have hK_3 := ih
      unfold wp_X5_copyState_3 at hv
      refine V_iload hc dX5_copyState_3 4 rfl ?_
      refine V_sipush hc dX5_copyState_5 (by decide) ?_
      refine V_icmp_ge (tgt := 29) hc dX5_copyState_8 (by decide) ⟨hv.1, by decide, hv.2⟩ (fun hv => ?_) (fun hv => ?_)
      · exact V_vret hc hr aP2 hv rfl dX5_copyState_29
      · refine V_aload_n hc dX5_copyState_11 2 rfl ?_
        refine V_iload_n hc dX5_copyState_12 3 rfl ?_
        refine V_iload hc dX5_copyState_13 4 rfl ?_
        refine V_iadd hc dX5_copyState_15 ?_
        refine V_aload_n hc dX5_copyState_16 0 rfl ?_
        refine V_iload_n hc dX5_copyState_17 1 rfl ?_
        refine V_iload hc dX5_copyState_18 4 rfl ?_
        refine V_iadd hc dX5_copyState_20 ?_
        refine V_iald hc 0 rfl hNP hv dX5_copyState_21 (fun hv => ?_)
        refine V_iast hc 1 rfl hNP2 hv dX5_copyState_22 [aI t hP NP aP, aI t hP2 NP2 (uI aP2 ((x3 + x4).toNat) (aP (x1 + x4).toNat))] rfl (fun hv => ?_)
        refine V_iinc hc dX5_copyState_23 4 rfl [(4, .int (iI (x4 + 1))), (0, .ref hP), (1, .int (iI x1)), (2, .ref hP2), (3, .int (iI x3))] (by decide) rfl ?_
        refine V_goto (tgt := 3) hc dX5_copyState_26 (by decide) ?_
        refine V_lv [1, 2, 3, 4, 0] [(0, .ref hP), (1, .int (iI x1)), (2, .ref hP2), (3, .int (iI x3)), (4, .int (iI (x4 + 1)))] rfl ?_
        exact hK_3 (uI aP2 ((x3 + x4).toNat) (aP (x1 + x4).toNat)) (x4 + 1) hv
  refine V_lv [0, 1, 2, 3] [(0, .ref hP), (1, .int (iI x1)), (2, .ref hP2), (3, .int (iI x3))] rfl ?_
  unfold wp_X5_copyState at hv
  refine V_iconst hc dX5_copyState_0 ?_
  refine V_istore hc dX5_copyState_1 [(4, .int (iI 0)), (0, .ref hP), (1, .int (iI x1)), (2, .ref hP2), (3, .int (iI x3))] (by decide) rfl ?_
  refine V_lv [1, 2, 3, 4, 0] [(0, .ref hP), (1, .int (iI x1)), (2, .ref hP2), (3, .int (iI x3)), (4, .int (iI 0))] rfl ?_
  obtain ⟨n9, hv⟩ := hv
  exact L_3 aP x1 x3 n9 aP2 0 hv
abbrev W1_X5_saveState (t : Nat → ClassId) (hM : Nat) (zA : Nat) (spA : Nat) (svA : Nat) (soA : Nat) (ikA : Nat) (txA : Nat) (viA : Nat) (srA : Nat) (frA : Nat) (toA : Nat) (hoA : Nat) (keA : Nat) (len : Int) (thr : Int) (nvi : Int) (low : Int) (high : Int) (nto : Int) (spo : Int) (mos : Int) (z : Nat → Int) (sp : Nat → Int) (so : Nat → Int) (ik : Nat → Int) (tx : Nat → Int) (vi : Nat → Int) (sr : Nat → Int) (fr : Nat → Int) (to : Nat → Int) (ho : Nat → Int) (ke : Nat → Int) (u : (Int) × (Nat → Int)) : va_W := [oB hM 5 [.ref zA, .ref spA, .ref svA, .int (iI u.1), .ref soA, .ref ikA, .ref txA, .int (iI len), .int (iI thr), .int (iI nvi), .ref viA, .int (iI low), .int (iI high), .ref srA, .ref frA, .ref toA, .ref hoA, .ref keA, .int (iI nto), .int (iI spo), .int (iI mos)], aI t zA 646 z, aI t spA 646 sp, aI t svA 3876 u.2, aI t soA 1292 so, aZ t ikA 2 ik, aI t txA 60 tx, aI t viA 120 vi, aI t srA 120 sr, aI t frA 122 fr, aI t toA 122 to, aI t hoA 31 ho, aI t keA 31 ke]
abbrev po_X5_saveState (Q : (Int) → (Nat → Int) → Prop) (u : (Int) × (Nat → Int)) : Prop := Q u.1 u.2
abbrev rm_X5_saveState : Room := { frames := 1, cells := 0, slots := 0, locals := 24 }
def wp_X5_saveState_50 (nsv : Int) (z : Nat → Int) (sv : Nat → Int) (Q : (Int) → (Nat → Int) → Prop) : Prop := wp_X5_copyState 646 3876 z sv 0 (646 * nsv) (fun sv_1 => Q (nsv + 1) sv_1)
def wp_X5_saveState_11 (nsv : Int) (z : Nat → Int) (Q : (Int) → (Nat → Int) → Prop) (K_11 : (Nat → Int) → Int → Prop) (sv : Nat → Int) (x1 : Int) : Prop := inR x1 ∧ (x1 ≥ 3230 → wp_X5_saveState_50 (nsv - 1) z sv Q) ∧ (¬ (x1 ≥ 3230) → (0 ≤ x1 + 646 ∧ x1 + 646 < 3876) ∧ (0 ≤ x1 ∧ x1 < 3876) ∧ K_11 (uI sv (x1.toNat) (sv (x1 + 646).toNat)) (x1 + 1))
def wp_X5_saveState (nsv : Int) (z : Nat → Int) (sv : Nat → Int) (Q : (Int) → (Nat → Int) → Prop) : Prop := inR nsv ∧ (nsv ≠ 6 → wp_X5_saveState_50 nsv z sv Q) ∧ (¬ (nsv ≠ 6) → (∃ n, lq2 (wp_X5_saveState_11 nsv z Q) n sv 0))
theorem m_X5_saveState_55 : Cond.fieldLink RX5 55 "BackgroundRebuildModel" "savedMany" "I" ∈ wsX5_saveState := by decide +kernel
theorem m_X5_saveState_16 : Cond.fieldLink RX5 16 "BackgroundRebuildModel" "saved" "[I" ∈ wsX5_saveState := by decide +kernel
theorem m_X5_saveState_7 : Cond.fieldLink RX5 7 "BackgroundRebuildModel" "z" "[I" ∈ wsX5_saveState := by decide +kernel
theorem i_X5_saveState_5 : ∀ w ∈ u_ws RX5 TX5 21, w ∈ wsX5_saveState := by decide +kernel
theorem ok_X5_saveState : yX5_saveState.cls = RX5 ∧ yX5_saveState.cls ≠ "java/lang/invoke/MethodHandle" ∧ yX5_saveState.cls ≠ "java/lang/invoke/VarHandle" ∧ (parseMethodDescriptor yX5_saveState.desc).map (fun d => d.parameters.length) = some 0 := by decide +kernel
set_option maxHeartbeats 4000000 in
set_option maxRecDepth 100000 in
theorem met_X5_saveState (l : Launch) (D : va_G) (t : Nat → ClassId) (hM : Nat) (zA : Nat) (spA : Nat) (svA : Nat) (soA : Nat) (ikA : Nat) (txA : Nat) (viA : Nat) (srA : Nat) (frA : Nat) (toA : Nat) (hoA : Nat) (keA : Nat) (nsv : Int) (len : Int) (thr : Int) (nvi : Int) (low : Int) (high : Int) (nto : Int) (spo : Int) (mos : Int) (z : Nat → Int) (sp : Nat → Int) (sv : Nat → Int) (so : Nat → Int) (ik : Nat → Int) (tx : Nat → Int) (vi : Nat → Int) (sr : Nat → Int) (fr : Nat → Int) (to : Nat → Int) (ho : Nat → Int) (ke : Nat → Int) (Q : (Int) → (Nat → Int) → Prop) (hv : wp_X5_saveState nsv z sv Q) : MV l D t yX5_saveState wsX5_saveState rm_X5_saveState [.ref hM] [oB hM 5 [.ref zA, .ref spA, .ref svA, .int (iI nsv), .ref soA, .ref ikA, .ref txA, .int (iI len), .int (iI thr), .int (iI nvi), .ref viA, .int (iI low), .int (iI high), .ref srA, .ref frA, .ref toA, .ref hoA, .ref keA, .int (iI nto), .int (iI spo), .int (iI mos)], aI t zA 646 z, aI t spA 646 sp, aI t svA 3876 sv, aI t soA 1292 so, aZ t ikA 2 ik, aI t txA 60 tx, aI t viA 120 vi, aI t srA 120 sr, aI t frA 122 fr, aI t toA 122 to, aI t hoA 31 ho, aI t keA 31 ke] (W1_X5_saveState t hM zA spA svA soA ikA txA viA srA frA toA hoA keA len thr nvi low high nto spo mos z sp so ik tx vi sr fr to ho ke) (po_X5_saveState Q) 0 0 := by
  refine M_ofv (cc := cX5_saveState) (nL := 2) (by decide) rfl (Nat.le_of_ble_eq_true rfl) ?_
  intro p e s m args below meth c A hc hr
  have C_50 : ∀ (nsv : Int) (z : Nat → Int) (sv : Nat → Int), wp_X5_saveState_50 nsv z sv Q → V p l e rm_X5_saveState s m args below meth c D A 2 0 0 (MQ below (QV D A (W1_X5_saveState t hM zA spA svA soA ikA txA viA srA frA toA hoA keA len thr nvi low high nto spo mos z sp so ik tx vi sr fr to ho ke) (po_X5_saveState Q)) args s 0 0 A) 50 [(0, .ref hM)] [] [oB hM 5 [.ref zA, .ref spA, .ref svA, .int (iI nsv), .ref soA, .ref ikA, .ref txA, .int (iI len), .int (iI thr), .int (iI nvi), .ref viA, .int (iI low), .int (iI high), .ref srA, .ref frA, .ref toA, .ref hoA, .ref keA, .int (iI nto), .int (iI spo), .int (iI mos)], aI t zA 646 z, aI t spA 646 sp, aI t svA 3876 sv, aI t soA 1292 so, aZ t ikA 2 ik, aI t txA 60 tx, aI t viA 120 vi, aI t srA 120 sr, aI t frA 122 fr, aI t toA 122 to, aI t hoA 31 ho, aI t keA 31 ke] := by
    intro nsv z sv hv
    unfold wp_X5_saveState_50 at hv
    refine V_aload_n hc dX5_saveState_50 0 rfl ?_
    refine V_get (C := RX5) (T := TX5) (N := 21) hc i_X5_saveState_5 0 rfl rfl 0 (by decide) m_X5_saveState_7 rfl dX5_saveState_51 ?_
    refine V_iconst hc dX5_saveState_54 ?_
    refine V_aload_n hc dX5_saveState_55 0 rfl ?_
    refine V_get (C := RX5) (T := TX5) (N := 21) hc i_X5_saveState_5 0 rfl rfl 2 (by decide) m_X5_saveState_16 rfl dX5_saveState_56 ?_
    refine V_sipush hc dX5_saveState_59 (by decide) ?_
    refine V_aload_n hc dX5_saveState_62 0 rfl ?_
    refine V_get (C := RX5) (T := TX5) (N := 21) hc i_X5_saveState_5 0 rfl rfl 3 (by decide) m_X5_saveState_55 rfl dX5_saveState_63 ?_
    refine V_imul hc dX5_saveState_66 ?_
    refine V_callSV (As := [.ref zA, .int (iI 0), .ref svA, .int (iI (646 * nsv))]) hc (wc := [aI t zA 646 z, aI t svA 3876 sv]) (wr := [oB hM 5 [.ref zA, .ref spA, .ref svA, .int (iI nsv), .ref soA, .ref ikA, .ref txA, .int (iI len), .int (iI thr), .int (iI nvi), .ref viA, .int (iI low), .int (iI high), .ref srA, .ref frA, .ref toA, .ref hoA, .ref keA, .int (iI nto), .int (iI spo), .int (iI mos)], aI t spA 646 sp, aI t soA 1292 so, aZ t ikA 2 ik, aI t txA 60 tx, aI t viA 120 vi, aI t srA 120 sr, aI t frA 122 fr, aI t toA 122 to, aI t hoA 31 ho, aI t keA 31 ke]) (pmI (ws := [oB hM 5 [.ref zA, .ref spA, .ref svA, .int (iI nsv), .ref soA, .ref ikA, .ref txA, .int (iI len), .int (iI thr), .int (iI nvi), .ref viA, .int (iI low), .int (iI high), .ref srA, .ref frA, .ref toA, .ref hoA, .ref keA, .int (iI nto), .int (iI spo), .int (iI mos)], aI t zA 646 z, aI t spA 646 sp, aI t svA 3876 sv, aI t soA 1292 so, aZ t ikA 2 ik, aI t txA 60 tx, aI t viA 120 vi, aI t srA 120 sr, aI t frA 122 fr, aI t toA 122 to, aI t hoA 31 ho, aI t keA 31 ke]) (ws1 := [aI t zA 646 z, aI t svA 3876 sv] ++ [oB hM 5 [.ref zA, .ref spA, .ref svA, .int (iI nsv), .ref soA, .ref ikA, .ref txA, .int (iI len), .int (iI thr), .int (iI nvi), .ref viA, .int (iI low), .int (iI high), .ref srA, .ref frA, .ref toA, .ref hoA, .ref keA, .int (iI nto), .int (iI spo), .int (iI mos)], aI t spA 646 sp, aI t soA 1292 so, aZ t ikA 2 ik, aI t txA 60 tx, aI t viA 120 vi, aI t srA 120 sr, aI t frA 122 fr, aI t toA 122 to, aI t hoA 31 ho, aI t keA 31 ke]) [1, 3, 0, 2, 4, 5, 6, 7, 8, 9, 10, 11, 12] 13 rfl (by decide +kernel) rfl) (met_X5_copyState l D t zA svA 646 3876 (by decide) (by decide) z sv 0 (646 * nsv) _ hv) rfl gX5_saveState_X5_copyState rfl ⟨rfl, rfl⟩ ok_X5_copyState (by decide) (Nat.le_of_ble_eq_true rfl) dX5_saveState_67 (by decide) (fun u9 hv => ?_)
    obtain ⟨sv_1, h9⟩ : ∃ z, z = u9 := ⟨_, rfl⟩
    subst h9
    try dsimp only at hv
    refine V_perm (ws1 := [oB hM 5 [.ref zA, .ref spA, .ref svA, .int (iI nsv), .ref soA, .ref ikA, .ref txA, .int (iI len), .int (iI thr), .int (iI nvi), .ref viA, .int (iI low), .int (iI high), .ref srA, .ref frA, .ref toA, .ref hoA, .ref keA, .int (iI nto), .int (iI spo), .int (iI mos)], aI t zA 646 z, aI t spA 646 sp, aI t svA 3876 sv_1, aI t soA 1292 so, aZ t ikA 2 ik, aI t txA 60 tx, aI t viA 120 vi, aI t srA 120 sr, aI t frA 122 fr, aI t toA 122 to, aI t hoA 31 ho, aI t keA 31 ke]) (pmI (ws := [aI t zA 646 z, aI t svA 3876 sv_1] ++ [oB hM 5 [.ref zA, .ref spA, .ref svA, .int (iI nsv), .ref soA, .ref ikA, .ref txA, .int (iI len), .int (iI thr), .int (iI nvi), .ref viA, .int (iI low), .int (iI high), .ref srA, .ref frA, .ref toA, .ref hoA, .ref keA, .int (iI nto), .int (iI spo), .int (iI mos)], aI t spA 646 sp, aI t soA 1292 so, aZ t ikA 2 ik, aI t txA 60 tx, aI t viA 120 vi, aI t srA 120 sr, aI t frA 122 fr, aI t toA 122 to, aI t hoA 31 ho, aI t keA 31 ke]) (ws1 := [oB hM 5 [.ref zA, .ref spA, .ref svA, .int (iI nsv), .ref soA, .ref ikA, .ref txA, .int (iI len), .int (iI thr), .int (iI nvi), .ref viA, .int (iI low), .int (iI high), .ref srA, .ref frA, .ref toA, .ref hoA, .ref keA, .int (iI nto), .int (iI spo), .int (iI mos)], aI t zA 646 z, aI t spA 646 sp, aI t svA 3876 sv_1, aI t soA 1292 so, aZ t ikA 2 ik, aI t txA 60 tx, aI t viA 120 vi, aI t srA 120 sr, aI t frA 122 fr, aI t toA 122 to, aI t hoA 31 ho, aI t keA 31 ke]) [2, 0, 3, 1, 4, 5, 6, 7, 8, 9, 10, 11, 12] 13 rfl (by decide +kernel) rfl) ?_
    refine V_aload_n hc dX5_saveState_70 0 rfl ?_
    refine V_dup hc dX5_saveState_71 rfl ?_
    refine V_get (C := RX5) (T := TX5) (N := 21) hc i_X5_saveState_5 0 rfl rfl 3 (by decide) m_X5_saveState_55 rfl dX5_saveState_72 ?_
    refine V_iconst hc dX5_saveState_75 ?_
    refine V_iadd hc dX5_saveState_76 ?_
    refine V_puti (C := RX5) (T := TX5) (N := 21) hc i_X5_saveState_5 0 rfl rfl 3 (by decide) m_X5_saveState_55 tyX5 tyX5_ok nmX5 rfl (by decide +kernel) (Nat.le_of_ble_eq_true rfl) dX5_saveState_77 [oB hM 5 [.ref zA, .ref spA, .ref svA, .int (iI (nsv + 1)), .ref soA, .ref ikA, .ref txA, .int (iI len), .int (iI thr), .int (iI nvi), .ref viA, .int (iI low), .int (iI high), .ref srA, .ref frA, .ref toA, .ref hoA, .ref keA, .int (iI nto), .int (iI spo), .int (iI mos)], aI t zA 646 z, aI t spA 646 sp, aI t svA 3876 sv_1, aI t soA 1292 so, aZ t ikA 2 ik, aI t txA 60 tx, aI t viA 120 vi, aI t srA 120 sr, aI t frA 122 fr, aI t toA 122 to, aI t hoA 31 ho, aI t keA 31 ke] rfl ?_
    exact V_vret hc hr (nsv + 1, sv_1) hv rfl dX5_saveState_80
  have L_11 : ∀ (nsv : Int) (z : Nat → Int) (n9 : Nat) (sv : Nat → Int) (x1 : Int), lq2 (wp_X5_saveState_11 nsv z Q) n9 sv x1 → V p l e rm_X5_saveState s m args below meth c D A 2 0 0 (MQ below (QV D A (W1_X5_saveState t hM zA spA svA soA ikA txA viA srA frA toA hoA keA len thr nvi low high nto spo mos z sp so ik tx vi sr fr to ho ke) (po_X5_saveState Q)) args s 0 0 A) 11 [(0, .ref hM), (1, .int (iI x1))] [] [oB hM 5 [.ref zA, .ref spA, .ref svA, .int (iI nsv), .ref soA, .ref ikA, .ref txA, .int (iI len), .int (iI thr), .int (iI nvi), .ref viA, .int (iI low), .int (iI high), .ref srA, .ref frA, .ref toA, .ref hoA, .ref keA, .int (iI nto), .int (iI spo), .int (iI mos)], aI t zA 646 z, aI t spA 646 sp, aI t svA 3876 sv, aI t soA 1292 so, aZ t ikA 2 ik, aI t txA 60 tx, aI t viA 120 vi, aI t srA 120 sr, aI t frA 122 fr, aI t toA 122 to, aI t hoA 31 ho, aI t keA 31 ke] := by
    intro nsv z n9
    induction n9 with
    | zero =>
      intro sv x1 hv
      exact hv.elim
    | succ n9 ih =>
      intro sv x1 hv
      have hv : wp_X5_saveState_11 nsv z Q (lq2 (wp_X5_saveState_11 nsv z Q) n9) sv x1 := hv
      generalize lq2 (wp_X5_saveState_11 nsv z Q) n9 = K_11 at hv ih
      have hK_11 := ih
      unfold wp_X5_saveState_11 at hv
      refine V_iload_n hc dX5_saveState_11 1 rfl ?_
      refine V_sipush hc dX5_saveState_12 (by decide) ?_
      refine V_icmp_ge (tgt := 40) hc dX5_saveState_15 (by decide) ⟨hv.1, by decide, hv.2⟩ (fun hv => ?_) (fun hv => ?_)
      · refine V_aload_n hc dX5_saveState_40 0 rfl ?_
        refine V_dup hc dX5_saveState_41 rfl ?_
        refine V_get (C := RX5) (T := TX5) (N := 21) hc i_X5_saveState_5 0 rfl rfl 3 (by decide) m_X5_saveState_55 rfl dX5_saveState_42 ?_
        refine V_iconst hc dX5_saveState_45 ?_
        refine V_isub hc dX5_saveState_46 ?_
        refine V_puti (C := RX5) (T := TX5) (N := 21) hc i_X5_saveState_5 0 rfl rfl 3 (by decide) m_X5_saveState_55 tyX5 tyX5_ok nmX5 rfl (by decide +kernel) (Nat.le_of_ble_eq_true rfl) dX5_saveState_47 [oB hM 5 [.ref zA, .ref spA, .ref svA, .int (iI (nsv - 1)), .ref soA, .ref ikA, .ref txA, .int (iI len), .int (iI thr), .int (iI nvi), .ref viA, .int (iI low), .int (iI high), .ref srA, .ref frA, .ref toA, .ref hoA, .ref keA, .int (iI nto), .int (iI spo), .int (iI mos)], aI t zA 646 z, aI t spA 646 sp, aI t svA 3876 sv, aI t soA 1292 so, aZ t ikA 2 ik, aI t txA 60 tx, aI t viA 120 vi, aI t srA 120 sr, aI t frA 122 fr, aI t toA 122 to, aI t hoA 31 ho, aI t keA 31 ke] rfl ?_
        refine V_lv [0] [(0, .ref hM)] rfl ?_
        exact C_50 (nsv - 1) z sv hv
      · refine V_aload_n hc dX5_saveState_18 0 rfl ?_
        refine V_get (C := RX5) (T := TX5) (N := 21) hc i_X5_saveState_5 0 rfl rfl 2 (by decide) m_X5_saveState_16 rfl dX5_saveState_19 ?_
        refine V_iload_n hc dX5_saveState_22 1 rfl ?_
        refine V_aload_n hc dX5_saveState_23 0 rfl ?_
        refine V_get (C := RX5) (T := TX5) (N := 21) hc i_X5_saveState_5 0 rfl rfl 2 (by decide) m_X5_saveState_16 rfl dX5_saveState_24 ?_
        refine V_iload_n hc dX5_saveState_27 1 rfl ?_
        refine V_sipush hc dX5_saveState_28 (by decide) ?_
        refine V_iadd hc dX5_saveState_31 ?_
        refine V_iald hc 3 rfl (by decide) hv dX5_saveState_32 (fun hv => ?_)
        refine V_iast hc 3 rfl (by decide) hv dX5_saveState_33 [oB hM 5 [.ref zA, .ref spA, .ref svA, .int (iI nsv), .ref soA, .ref ikA, .ref txA, .int (iI len), .int (iI thr), .int (iI nvi), .ref viA, .int (iI low), .int (iI high), .ref srA, .ref frA, .ref toA, .ref hoA, .ref keA, .int (iI nto), .int (iI spo), .int (iI mos)], aI t zA 646 z, aI t spA 646 sp, aI t svA 3876 (uI sv (x1.toNat) (sv (x1 + 646).toNat)), aI t soA 1292 so, aZ t ikA 2 ik, aI t txA 60 tx, aI t viA 120 vi, aI t srA 120 sr, aI t frA 122 fr, aI t toA 122 to, aI t hoA 31 ho, aI t keA 31 ke] rfl (fun hv => ?_)
        refine V_iinc hc dX5_saveState_34 1 rfl [(1, .int (iI (x1 + 1))), (0, .ref hM)] (by decide) rfl ?_
        refine V_goto (tgt := 11) hc dX5_saveState_37 (by decide) ?_
        refine V_lv [1, 0] [(0, .ref hM), (1, .int (iI (x1 + 1)))] rfl ?_
        exact hK_11 (uI sv (x1.toNat) (sv (x1 + 646).toNat)) (x1 + 1) hv
  refine V_lv [0] [(0, .ref hM)] rfl ?_
  unfold wp_X5_saveState at hv
  refine V_aload_n hc dX5_saveState_0 0 rfl ?_
  refine V_get (C := RX5) (T := TX5) (N := 21) hc i_X5_saveState_5 0 rfl rfl 3 (by decide) m_X5_saveState_55 rfl dX5_saveState_1 ?_
  refine V_bipush hc dX5_saveState_4 (by decide) ?_
  refine V_icmp_ne (tgt := 50) hc dX5_saveState_6 (by decide) ⟨hv.1, by decide, hv.2⟩ (fun hv => ?_) (fun hv => ?_)
  · exact C_50 nsv z sv hv
  · refine V_iconst hc dX5_saveState_9 ?_
    refine V_istore_n hc dX5_saveState_10 [(1, .int (iI 0)), (0, .ref hM)] (by decide) rfl ?_
    refine V_lv [1, 0] [(0, .ref hM), (1, .int (iI 0))] rfl ?_
    obtain ⟨n9, hv⟩ := hv
    exact L_11 nsv z n9 sv 0 hv
abbrev W1_X5_placeOf (t : Nat → ClassId) (hM : Nat) (zA : Nat) (spA : Nat) (svA : Nat) (soA : Nat) (ikA : Nat) (txA : Nat) (viA : Nat) (srA : Nat) (frA : Nat) (toA : Nat) (hoA : Nat) (keA : Nat) (nsv : Int) (len : Int) (thr : Int) (nvi : Int) (low : Int) (high : Int) (nto : Int) (spo : Int) (mos : Int) (z : Nat → Int) (sp : Nat → Int) (sv : Nat → Int) (so : Nat → Int) (ik : Nat → Int) (tx : Nat → Int) (vi : Nat → Int) (sr : Nat → Int) (fr : Nat → Int) (to : Nat → Int) (ho : Nat → Int) (ke : Nat → Int) (u : Unit) : va_W := [oB hM 5 [.ref zA, .ref spA, .ref svA, .int (iI nsv), .ref soA, .ref ikA, .ref txA, .int (iI len), .int (iI thr), .int (iI nvi), .ref viA, .int (iI low), .int (iI high), .ref srA, .ref frA, .ref toA, .ref hoA, .ref keA, .int (iI nto), .int (iI spo), .int (iI mos)], aI t zA 646 z, aI t spA 646 sp, aI t svA 3876 sv, aI t soA 1292 so, aZ t ikA 2 ik, aI t txA 60 tx, aI t viA 120 vi, aI t srA 120 sr, aI t frA 122 fr, aI t toA 122 to, aI t hoA 31 ho, aI t keA 31 ke]
abbrev po_X5_placeOf (Q : Int → Prop) (r : Int) (u : Unit) : Prop := Q r
abbrev rm_X5_placeOf : Room := { frames := 0, cells := 0, slots := 0, locals := 0 }
def wp_X5_placeOf_5 (z : Nat → Int) (x1 : Int) (x2 : Int) (Q : Int → Prop) (K_5 : Int → Int → Prop) (x3 : Int) (x4 : Int) : Prop := (0 ≤ x1 ∧ x1 < 646) ∧ inR x4 ∧ inR (z x1.toNat) ∧ (x4 ≥ z x1.toNat → Q x3) ∧ (¬ (x4 ≥ z x1.toNat) → (0 ≤ (x1 + 1) + x4 ∧ (x1 + 1) + x4 < 646) ∧ inR (z ((x1 + 1) + x4).toNat) ∧ inR x2 ∧ (z ((x1 + 1) + x4).toNat ≠ x2 → K_5 x3 (x4 + 1)) ∧ (¬ (z ((x1 + 1) + x4).toNat ≠ x2) → K_5 x4 (x4 + 1)))
def wp_X5_placeOf (z : Nat → Int) (x1 : Int) (x2 : Int) (Q : Int → Prop) : Prop := (∃ n, lq2 (wp_X5_placeOf_5 z x1 x2 Q) n (-1) 0)
theorem m_X5_placeOf_7 : Cond.fieldLink RX5 7 "BackgroundRebuildModel" "z" "[I" ∈ wsX5_placeOf := by decide +kernel
theorem i_X5_placeOf_5 : ∀ w ∈ u_ws RX5 TX5 21, w ∈ wsX5_placeOf := by decide +kernel
theorem ok_X5_placeOf : yX5_placeOf.cls = RX5 ∧ yX5_placeOf.cls ≠ "java/lang/invoke/MethodHandle" ∧ yX5_placeOf.cls ≠ "java/lang/invoke/VarHandle" ∧ (parseMethodDescriptor yX5_placeOf.desc).map (fun d => d.parameters.length) = some 2 := by decide +kernel
set_option maxHeartbeats 4000000 in
set_option maxRecDepth 100000 in
theorem met_X5_placeOf (l : Launch) (D : va_G) (t : Nat → ClassId) (hM : Nat) (zA : Nat) (spA : Nat) (svA : Nat) (soA : Nat) (ikA : Nat) (txA : Nat) (viA : Nat) (srA : Nat) (frA : Nat) (toA : Nat) (hoA : Nat) (keA : Nat) (nsv : Int) (len : Int) (thr : Int) (nvi : Int) (low : Int) (high : Int) (nto : Int) (spo : Int) (mos : Int) (z : Nat → Int) (sp : Nat → Int) (sv : Nat → Int) (so : Nat → Int) (ik : Nat → Int) (tx : Nat → Int) (vi : Nat → Int) (sr : Nat → Int) (fr : Nat → Int) (to : Nat → Int) (ho : Nat → Int) (ke : Nat → Int) (x1 : Int) (x2 : Int) (Q : Int → Prop) (hv : wp_X5_placeOf z x1 x2 Q) : MI l D t yX5_placeOf wsX5_placeOf rm_X5_placeOf [.ref hM, .int (iI x1), .int (iI x2)] [oB hM 5 [.ref zA, .ref spA, .ref svA, .int (iI nsv), .ref soA, .ref ikA, .ref txA, .int (iI len), .int (iI thr), .int (iI nvi), .ref viA, .int (iI low), .int (iI high), .ref srA, .ref frA, .ref toA, .ref hoA, .ref keA, .int (iI nto), .int (iI spo), .int (iI mos)], aI t zA 646 z, aI t spA 646 sp, aI t svA 3876 sv, aI t soA 1292 so, aZ t ikA 2 ik, aI t txA 60 tx, aI t viA 120 vi, aI t srA 120 sr, aI t frA 122 fr, aI t toA 122 to, aI t hoA 31 ho, aI t keA 31 ke] (W1_X5_placeOf t hM zA spA svA soA ikA txA viA srA frA toA hoA keA nsv len thr nvi low high nto spo mos z sp sv so ik tx vi sr fr to ho ke) (po_X5_placeOf Q) 0 0 := by
  refine M_ofi (cc := cX5_placeOf) (nL := 5) (by decide) rfl (Nat.le_of_ble_eq_true rfl) ?_
  intro p e s m args below meth c A hc hr
  have L_5 : ∀ (z : Nat → Int) (x1 : Int) (x2 : Int) (n9 : Nat) (x3 : Int) (x4 : Int), lq2 (wp_X5_placeOf_5 z x1 x2 Q) n9 x3 x4 → V p l e rm_X5_placeOf s m args below meth c D A 5 0 0 (MQ below (QI D A (W1_X5_placeOf t hM zA spA svA soA ikA txA viA srA frA toA hoA keA nsv len thr nvi low high nto spo mos z sp sv so ik tx vi sr fr to ho ke) (po_X5_placeOf Q)) args s 0 0 A) 5 [(0, .ref hM), (1, .int (iI x1)), (2, .int (iI x2)), (3, .int (iI x3)), (4, .int (iI x4))] [] [oB hM 5 [.ref zA, .ref spA, .ref svA, .int (iI nsv), .ref soA, .ref ikA, .ref txA, .int (iI len), .int (iI thr), .int (iI nvi), .ref viA, .int (iI low), .int (iI high), .ref srA, .ref frA, .ref toA, .ref hoA, .ref keA, .int (iI nto), .int (iI spo), .int (iI mos)], aI t zA 646 z, aI t spA 646 sp, aI t svA 3876 sv, aI t soA 1292 so, aZ t ikA 2 ik, aI t txA 60 tx, aI t viA 120 vi, aI t srA 120 sr, aI t frA 122 fr, aI t toA 122 to, aI t hoA 31 ho, aI t keA 31 ke] := by
    intro z x1 x2 n9
    induction n9 with
    | zero =>
      intro x3 x4 hv
      exact hv.elim
    | succ n9 ih =>
      intro x3 x4 hv
      have hv : wp_X5_placeOf_5 z x1 x2 Q (lq2 (wp_X5_placeOf_5 z x1 x2 Q) n9) x3 x4 := hv
      generalize lq2 (wp_X5_placeOf_5 z x1 x2 Q) n9 = K_5 at hv ih
      have hK_5 := ih
      unfold wp_X5_placeOf_5 at hv
      refine V_iload hc dX5_placeOf_5 4 rfl ?_
      refine V_aload_n hc dX5_placeOf_7 0 rfl ?_
      refine V_get (C := RX5) (T := TX5) (N := 21) hc i_X5_placeOf_5 0 rfl rfl 0 (by decide) m_X5_placeOf_7 rfl dX5_placeOf_8 ?_
      refine V_iload_n hc dX5_placeOf_11 1 rfl ?_
      refine V_iald hc 1 rfl (by decide) hv dX5_placeOf_12 (fun hv => ?_)
      refine V_icmp_ge (tgt := 44) hc dX5_placeOf_13 (by decide) hv (fun hv => ?_) (fun hv => ?_)
      · refine V_iload_n hc dX5_placeOf_44 3 rfl ?_
        exact V_iret hc hr () hv rfl dX5_placeOf_45
      · refine V_aload_n hc dX5_placeOf_16 0 rfl ?_
        refine V_get (C := RX5) (T := TX5) (N := 21) hc i_X5_placeOf_5 0 rfl rfl 0 (by decide) m_X5_placeOf_7 rfl dX5_placeOf_17 ?_
        refine V_iload_n hc dX5_placeOf_20 1 rfl ?_
        refine V_iconst hc dX5_placeOf_21 ?_
        refine V_iadd hc dX5_placeOf_22 ?_
        refine V_iload hc dX5_placeOf_23 4 rfl ?_
        refine V_iadd hc dX5_placeOf_25 ?_
        refine V_iald hc 1 rfl (by decide) hv dX5_placeOf_26 (fun hv => ?_)
        refine V_iload_n hc dX5_placeOf_27 2 rfl ?_
        refine V_icmp_ne (tgt := 36) hc dX5_placeOf_28 (by decide) hv (fun hv => ?_) (fun hv => ?_)
        · refine V_iload_n hc dX5_placeOf_36 3 rfl ?_
          refine V_istore_n hc dX5_placeOf_37 [(3, .int (iI x3)), (0, .ref hM), (1, .int (iI x1)), (2, .int (iI x2)), (4, .int (iI x4))] (by decide) rfl ?_
          refine V_iinc hc dX5_placeOf_38 4 rfl [(4, .int (iI (x4 + 1))), (3, .int (iI x3)), (0, .ref hM), (1, .int (iI x1)), (2, .int (iI x2))] (by decide) rfl ?_
          refine V_goto (tgt := 5) hc dX5_placeOf_41 (by decide) ?_
          refine V_lv [2, 3, 4, 1, 0] [(0, .ref hM), (1, .int (iI x1)), (2, .int (iI x2)), (3, .int (iI x3)), (4, .int (iI (x4 + 1)))] rfl ?_
          exact hK_5 x3 (x4 + 1) hv
        · refine V_iload hc dX5_placeOf_31 4 rfl ?_
          refine V_goto (tgt := 37) hc dX5_placeOf_33 (by decide) ?_
          refine V_istore_n hc dX5_placeOf_37 [(3, .int (iI x4)), (0, .ref hM), (1, .int (iI x1)), (2, .int (iI x2)), (4, .int (iI x4))] (by decide) rfl ?_
          refine V_iinc hc dX5_placeOf_38 4 rfl [(4, .int (iI (x4 + 1))), (3, .int (iI x4)), (0, .ref hM), (1, .int (iI x1)), (2, .int (iI x2))] (by decide) rfl ?_
          refine V_goto (tgt := 5) hc dX5_placeOf_41 (by decide) ?_
          refine V_lv [2, 3, 4, 1, 0] [(0, .ref hM), (1, .int (iI x1)), (2, .int (iI x2)), (3, .int (iI x4)), (4, .int (iI (x4 + 1)))] rfl ?_
          exact hK_5 x4 (x4 + 1) hv
  refine V_lv [0, 1, 2] [(0, .ref hM), (1, .int (iI x1)), (2, .int (iI x2))] rfl ?_
  unfold wp_X5_placeOf at hv
  refine V_iconst hc dX5_placeOf_0 ?_
  refine V_istore_n hc dX5_placeOf_1 [(3, .int (iI (-1))), (0, .ref hM), (1, .int (iI x1)), (2, .int (iI x2))] (by decide) rfl ?_
  refine V_iconst hc dX5_placeOf_2 ?_
  refine V_istore hc dX5_placeOf_3 [(4, .int (iI 0)), (3, .int (iI (-1))), (0, .ref hM), (1, .int (iI x1)), (2, .int (iI x2))] (by decide) rfl ?_
  refine V_lv [2, 3, 4, 1, 0] [(0, .ref hM), (1, .int (iI x1)), (2, .int (iI x2)), (3, .int (iI (-1))), (4, .int (iI 0))] rfl ?_
  obtain ⟨n9, hv⟩ := hv
  exact L_5 z x1 x2 n9 (-1) 0 hv
abbrev W1_X5_isPresent (t : Nat → ClassId) (hM : Nat) (zA : Nat) (spA : Nat) (svA : Nat) (soA : Nat) (ikA : Nat) (txA : Nat) (viA : Nat) (srA : Nat) (frA : Nat) (toA : Nat) (hoA : Nat) (keA : Nat) (nsv : Int) (len : Int) (thr : Int) (nvi : Int) (low : Int) (high : Int) (nto : Int) (spo : Int) (mos : Int) (z : Nat → Int) (sp : Nat → Int) (sv : Nat → Int) (so : Nat → Int) (ik : Nat → Int) (tx : Nat → Int) (vi : Nat → Int) (sr : Nat → Int) (fr : Nat → Int) (to : Nat → Int) (ho : Nat → Int) (ke : Nat → Int) (u : Unit) : va_W := [oB hM 5 [.ref zA, .ref spA, .ref svA, .int (iI nsv), .ref soA, .ref ikA, .ref txA, .int (iI len), .int (iI thr), .int (iI nvi), .ref viA, .int (iI low), .int (iI high), .ref srA, .ref frA, .ref toA, .ref hoA, .ref keA, .int (iI nto), .int (iI spo), .int (iI mos)], aI t zA 646 z, aI t spA 646 sp, aI t svA 3876 sv, aI t soA 1292 so, aZ t ikA 2 ik, aI t txA 60 tx, aI t viA 120 vi, aI t srA 120 sr, aI t frA 122 fr, aI t toA 122 to, aI t hoA 31 ho, aI t keA 31 ke]
abbrev po_X5_isPresent (Q : Int → Prop) (r : Int) (u : Unit) : Prop := Q r
abbrev rm_X5_isPresent : Room := { frames := 1, cells := 0, slots := 0, locals := 24 }
def wp_X5_isPresent (z : Nat → Int) (x1 : Int) (x2 : Int) (Q : Int → Prop) : Prop := wp_X5_placeOf z x1 x2 (fun r_1 => inR r_1 ∧ (r_1 = (-1) → Q 0) ∧ (¬ (r_1 = (-1)) → (0 ≤ (x1 + 121) + r_1 ∧ (x1 + 121) + r_1 < 646) ∧ inR (z ((x1 + 121) + r_1).toNat) ∧ (z ((x1 + 121) + r_1).toNat ≠ 0 → Q 0) ∧ (¬ (z ((x1 + 121) + r_1).toNat ≠ 0) → Q 1)))
theorem m_X5_isPresent_7 : Cond.fieldLink RX5 7 "BackgroundRebuildModel" "z" "[I" ∈ wsX5_isPresent := by decide +kernel
theorem i_X5_isPresent_5 : ∀ w ∈ u_ws RX5 TX5 21, w ∈ wsX5_isPresent := by decide +kernel
theorem ok_X5_isPresent : yX5_isPresent.cls = RX5 ∧ yX5_isPresent.cls ≠ "java/lang/invoke/MethodHandle" ∧ yX5_isPresent.cls ≠ "java/lang/invoke/VarHandle" ∧ (parseMethodDescriptor yX5_isPresent.desc).map (fun d => d.parameters.length) = some 2 := by decide +kernel
set_option maxHeartbeats 4000000 in
set_option maxRecDepth 100000 in
theorem met_X5_isPresent (l : Launch) (D : va_G) (t : Nat → ClassId) (hM : Nat) (zA : Nat) (spA : Nat) (svA : Nat) (soA : Nat) (ikA : Nat) (txA : Nat) (viA : Nat) (srA : Nat) (frA : Nat) (toA : Nat) (hoA : Nat) (keA : Nat) (nsv : Int) (len : Int) (thr : Int) (nvi : Int) (low : Int) (high : Int) (nto : Int) (spo : Int) (mos : Int) (z : Nat → Int) (sp : Nat → Int) (sv : Nat → Int) (so : Nat → Int) (ik : Nat → Int) (tx : Nat → Int) (vi : Nat → Int) (sr : Nat → Int) (fr : Nat → Int) (to : Nat → Int) (ho : Nat → Int) (ke : Nat → Int) (x1 : Int) (x2 : Int) (Q : Int → Prop) (hv : wp_X5_isPresent z x1 x2 Q) : MI l D t yX5_isPresent wsX5_isPresent rm_X5_isPresent [.ref hM, .int (iI x1), .int (iI x2)] [oB hM 5 [.ref zA, .ref spA, .ref svA, .int (iI nsv), .ref soA, .ref ikA, .ref txA, .int (iI len), .int (iI thr), .int (iI nvi), .ref viA, .int (iI low), .int (iI high), .ref srA, .ref frA, .ref toA, .ref hoA, .ref keA, .int (iI nto), .int (iI spo), .int (iI mos)], aI t zA 646 z, aI t spA 646 sp, aI t svA 3876 sv, aI t soA 1292 so, aZ t ikA 2 ik, aI t txA 60 tx, aI t viA 120 vi, aI t srA 120 sr, aI t frA 122 fr, aI t toA 122 to, aI t hoA 31 ho, aI t keA 31 ke] (W1_X5_isPresent t hM zA spA svA soA ikA txA viA srA frA toA hoA keA nsv len thr nvi low high nto spo mos z sp sv so ik tx vi sr fr to ho ke) (po_X5_isPresent Q) 0 0 := by
  refine M_ofz (cc := cX5_isPresent) (nL := 4) (by decide) rfl (Nat.le_of_ble_eq_true rfl) ?_
  intro p e s m args below meth c A hc hr
  refine V_lv [0, 1, 2] [(0, .ref hM), (1, .int (iI x1)), (2, .int (iI x2))] rfl ?_
  unfold wp_X5_isPresent at hv
  refine V_aload_n hc dX5_isPresent_0 0 rfl ?_
  refine V_iload_n hc dX5_isPresent_1 1 rfl ?_
  refine V_iload_n hc dX5_isPresent_2 2 rfl ?_
  refine V_callVI (As := [.int (iI x1), .int (iI x2)]) hc (wc := [oB hM 5 [.ref zA, .ref spA, .ref svA, .int (iI nsv), .ref soA, .ref ikA, .ref txA, .int (iI len), .int (iI thr), .int (iI nvi), .ref viA, .int (iI low), .int (iI high), .ref srA, .ref frA, .ref toA, .ref hoA, .ref keA, .int (iI nto), .int (iI spo), .int (iI mos)], aI t zA 646 z, aI t spA 646 sp, aI t svA 3876 sv, aI t soA 1292 so, aZ t ikA 2 ik, aI t txA 60 tx, aI t viA 120 vi, aI t srA 120 sr, aI t frA 122 fr, aI t toA 122 to, aI t hoA 31 ho, aI t keA 31 ke]) (wr := []) (pmI (ws := [oB hM 5 [.ref zA, .ref spA, .ref svA, .int (iI nsv), .ref soA, .ref ikA, .ref txA, .int (iI len), .int (iI thr), .int (iI nvi), .ref viA, .int (iI low), .int (iI high), .ref srA, .ref frA, .ref toA, .ref hoA, .ref keA, .int (iI nto), .int (iI spo), .int (iI mos)], aI t zA 646 z, aI t spA 646 sp, aI t svA 3876 sv, aI t soA 1292 so, aZ t ikA 2 ik, aI t txA 60 tx, aI t viA 120 vi, aI t srA 120 sr, aI t frA 122 fr, aI t toA 122 to, aI t hoA 31 ho, aI t keA 31 ke]) (ws1 := [oB hM 5 [.ref zA, .ref spA, .ref svA, .int (iI nsv), .ref soA, .ref ikA, .ref txA, .int (iI len), .int (iI thr), .int (iI nvi), .ref viA, .int (iI low), .int (iI high), .ref srA, .ref frA, .ref toA, .ref hoA, .ref keA, .int (iI nto), .int (iI spo), .int (iI mos)], aI t zA 646 z, aI t spA 646 sp, aI t svA 3876 sv, aI t soA 1292 so, aZ t ikA 2 ik, aI t txA 60 tx, aI t viA 120 vi, aI t srA 120 sr, aI t frA 122 fr, aI t toA 122 to, aI t hoA 31 ho, aI t keA 31 ke] ++ []) [0, 1, 2, 3, 4, 5, 6, 7, 8, 9, 10, 11, 12] 13 rfl (by decide +kernel) rfl) rfl rfl (met_X5_placeOf l D t hM zA spA svA soA ikA txA viA srA frA toA hoA keA nsv len thr nvi low high nto spo mos z sp sv so ik tx vi sr fr to ho ke x1 x2 _ hv) rfl gX5_isPresent_X5_placeOf rfl ⟨rfl, rfl⟩ ok_X5_placeOf (by decide) (Nat.le_of_ble_eq_true rfl) dX5_isPresent_3 (by decide) (fun r_1 _ hv => ?_)
  try dsimp only at hv
  refine V_perm (ws1 := [oB hM 5 [.ref zA, .ref spA, .ref svA, .int (iI nsv), .ref soA, .ref ikA, .ref txA, .int (iI len), .int (iI thr), .int (iI nvi), .ref viA, .int (iI low), .int (iI high), .ref srA, .ref frA, .ref toA, .ref hoA, .ref keA, .int (iI nto), .int (iI spo), .int (iI mos)], aI t zA 646 z, aI t spA 646 sp, aI t svA 3876 sv, aI t soA 1292 so, aZ t ikA 2 ik, aI t txA 60 tx, aI t viA 120 vi, aI t srA 120 sr, aI t frA 122 fr, aI t toA 122 to, aI t hoA 31 ho, aI t keA 31 ke]) (pmI (ws := [oB hM 5 [.ref zA, .ref spA, .ref svA, .int (iI nsv), .ref soA, .ref ikA, .ref txA, .int (iI len), .int (iI thr), .int (iI nvi), .ref viA, .int (iI low), .int (iI high), .ref srA, .ref frA, .ref toA, .ref hoA, .ref keA, .int (iI nto), .int (iI spo), .int (iI mos)], aI t zA 646 z, aI t spA 646 sp, aI t svA 3876 sv, aI t soA 1292 so, aZ t ikA 2 ik, aI t txA 60 tx, aI t viA 120 vi, aI t srA 120 sr, aI t frA 122 fr, aI t toA 122 to, aI t hoA 31 ho, aI t keA 31 ke] ++ []) (ws1 := [oB hM 5 [.ref zA, .ref spA, .ref svA, .int (iI nsv), .ref soA, .ref ikA, .ref txA, .int (iI len), .int (iI thr), .int (iI nvi), .ref viA, .int (iI low), .int (iI high), .ref srA, .ref frA, .ref toA, .ref hoA, .ref keA, .int (iI nto), .int (iI spo), .int (iI mos)], aI t zA 646 z, aI t spA 646 sp, aI t svA 3876 sv, aI t soA 1292 so, aZ t ikA 2 ik, aI t txA 60 tx, aI t viA 120 vi, aI t srA 120 sr, aI t frA 122 fr, aI t toA 122 to, aI t hoA 31 ho, aI t keA 31 ke]) [0, 1, 2, 3, 4, 5, 6, 7, 8, 9, 10, 11, 12] 13 rfl (by decide +kernel) rfl) ?_
  refine V_istore_n hc dX5_isPresent_6 [(3, .int (iI r_1)), (0, .ref hM), (1, .int (iI x1)), (2, .int (iI x2))] (by decide) rfl ?_
  refine V_iload_n hc dX5_isPresent_7 0 rfl ?_
  refine V_iconst hc dX5_isPresent_8 ?_
  refine V_icmp_eq (tgt := 30) hc dX5_isPresent_9 (by decide) ⟨hv.1, by decide, hv.2⟩ (fun hv => ?_) (fun hv => ?_)
  · refine V_iconst hc dX5_isPresent_30 ?_
    exact V_zret hc hr () ⟨by decide, hv⟩ rfl dX5_isPresent_31
  · refine V_aload_n hc dX5_isPresent_12 1 rfl ?_
    refine V_get (C := RX5) (T := TX5) (N := 21) hc i_X5_isPresent_5 0 rfl rfl 0 (by decide) m_X5_isPresent_7 rfl dX5_isPresent_13 ?_
    refine V_iload_n hc dX5_isPresent_16 2 rfl ?_
    refine V_bipush hc dX5_isPresent_17 (by decide) ?_
    refine V_iadd hc dX5_isPresent_19 ?_
    refine V_iload_n hc dX5_isPresent_20 0 rfl ?_
    refine V_iadd hc dX5_isPresent_21 ?_
    refine V_iald hc 1 rfl (by decide) hv dX5_isPresent_22 (fun hv => ?_)
    refine V_if_ne (tgt := 30) hc dX5_isPresent_23 (by decide) hv (fun hv => ?_) (fun hv => ?_)
    · refine V_iconst hc dX5_isPresent_30 ?_
      exact V_zret hc hr () ⟨by decide, hv⟩ rfl dX5_isPresent_31
    · refine V_iconst hc dX5_isPresent_26 ?_
      refine V_goto (tgt := 31) hc dX5_isPresent_27 (by decide) ?_
      exact V_zret hc hr () ⟨by decide, hv⟩ rfl dX5_isPresent_31
abbrev W1_X5_seek (t : Nat → ClassId) (hM : Nat) (zA : Nat) (spA : Nat) (svA : Nat) (soA : Nat) (ikA : Nat) (txA : Nat) (viA : Nat) (srA : Nat) (frA : Nat) (toA : Nat) (hoA : Nat) (keA : Nat) (nsv : Int) (len : Int) (thr : Int) (nto : Int) (spo : Int) (mos : Int) (z : Nat → Int) (sp : Nat → Int) (sv : Nat → Int) (so : Nat → Int) (ik : Nat → Int) (tx : Nat → Int) (sr : Nat → Int) (fr : Nat → Int) (to : Nat → Int) (ho : Nat → Int) (ke : Nat → Int) (u : (Int) × (Int) × (Int) × (Nat → Int)) : va_W := [oB hM 5 [.ref zA, .ref spA, .ref svA, .int (iI nsv), .ref soA, .ref ikA, .ref txA, .int (iI len), .int (iI thr), .int (iI u.1), .ref viA, .int (iI u.2.1), .int (iI u.2.2.1), .ref srA, .ref frA, .ref toA, .ref hoA, .ref keA, .int (iI nto), .int (iI spo), .int (iI mos)], aI t zA 646 z, aI t spA 646 sp, aI t svA 3876 sv, aI t soA 1292 so, aZ t ikA 2 ik, aI t txA 60 tx, aI t viA 120 u.2.2.2, aI t srA 120 sr, aI t frA 122 fr, aI t toA 122 to, aI t hoA 31 ho, aI t keA 31 ke]
abbrev po_X5_seek (Q : (Int) → (Int) → (Int) → (Nat → Int) → Prop) (u : (Int) × (Int) × (Int) × (Nat → Int)) : Prop := Q u.1 u.2.1 u.2.2.1 u.2.2.2
abbrev rm_X5_seek : Room := { frames := 0, cells := 0, slots := 0, locals := 0 }
def wp_X5_seek_117 (nvi : Int) (low : Int) (high : Int) (z : Nat → Int) (vi : Nat → Int) (x1 : Int) (x2 : Int) (x3 : Int) (x4 : Int) (x5 : Int) (s0 : Int) (Q : (Int) → (Int) → (Int) → (Nat → Int) → Prop) (K_22 : (Int) → (Int) → (Int) → (Nat → Int) → Int → Int → Prop) : Prop := inR x2 ∧ inR x5 ∧ (x2 ≤ x5 → K_22 nvi low s0 vi x3 (x4 + 1)) ∧ (¬ (x2 ≤ x5) → K_22 nvi x5 s0 vi x3 (x4 + 1))
def wp_X5_seek_100 (nvi : Int) (low : Int) (high : Int) (z : Nat → Int) (vi : Nat → Int) (x1 : Int) (x2 : Int) (x4 : Int) (x5 : Int) (s0 : Int) (Q : (Int) → (Int) → (Int) → (Nat → Int) → Prop) (K_22 : (Int) → (Int) → (Int) → (Nat → Int) → Int → Int → Prop) : Prop := inR x2 ∧ inR x5 ∧ (x2 ≥ x5 → wp_X5_seek_117 nvi low high z vi x1 x2 s0 x4 x5 high Q K_22) ∧ (¬ (x2 ≥ x5) → wp_X5_seek_117 nvi low high z vi x1 x2 s0 x4 x5 x5 Q K_22)
def wp_X5_seek_22 (z : Nat → Int) (x1 : Int) (x2 : Int) (Q : (Int) → (Int) → (Int) → (Nat → Int) → Prop) (K_22 : (Int) → (Int) → (Int) → (Nat → Int) → Int → Int → Prop) (nvi : Int) (low : Int) (high : Int) (vi : Nat → Int) (x3 : Int) (x4 : Int) : Prop := (0 ≤ x1 ∧ x1 < 646) ∧ inR x4 ∧ inR (z x1.toNat) ∧ (x4 ≥ z x1.toNat → Q nvi low high vi) ∧ (¬ (x4 ≥ z x1.toNat) → inR x3 ∧ (x3 ≠ 0 → Q nvi low high vi) ∧ (¬ (x3 ≠ 0) → (0 ≤ (x1 + 1) + x4 ∧ (x1 + 1) + x4 < 646) ∧ inR (z ((x1 + 1) + x4).toNat) ∧ inR low ∧ (z ((x1 + 1) + x4).toNat ≤ low → K_22 nvi low high vi x3 (x4 + 1)) ∧ (¬ (z ((x1 + 1) + x4).toNat ≤ low) → inR (z ((x1 + 1) + x4).toNat) ∧ inR high ∧ (z ((x1 + 1) + x4).toNat ≥ high → K_22 nvi low high vi x3 (x4 + 1)) ∧ (¬ (z ((x1 + 1) + x4).toNat ≥ high) → (0 ≤ nvi ∧ nvi < 120) ∧ inR (z ((x1 + 1) + x4).toNat) ∧ inR x2 ∧ (z ((x1 + 1) + x4).toNat ≠ x2 → wp_X5_seek_100 (nvi + 1) low high z (uI vi (nvi.toNat) (z ((x1 + 1) + x4).toNat)) x1 x2 x4 (z ((x1 + 1) + x4).toNat) 0 Q K_22) ∧ (¬ (z ((x1 + 1) + x4).toNat ≠ x2) → wp_X5_seek_100 (nvi + 1) low high z (uI vi (nvi.toNat) (z ((x1 + 1) + x4).toNat)) x1 x2 x4 (z ((x1 + 1) + x4).toNat) 1 Q K_22)))))
def wp_X5_seek (nvi : Int) (low : Int) (high : Int) (z : Nat → Int) (vi : Nat → Int) (x1 : Int) (x2 : Int) (Q : (Int) → (Int) → (Int) → (Nat → Int) → Prop) : Prop := (∃ n, lq6 (wp_X5_seek_22 z x1 x2 Q) n 0 (-1) 500 vi 0 0)
theorem m_X5_seek_66 : Cond.fieldLink RX5 66 "BackgroundRebuildModel" "visitedMany" "I" ∈ wsX5_seek := by decide +kernel
theorem m_X5_seek_69 : Cond.fieldLink RX5 69 "BackgroundRebuildModel" "low" "I" ∈ wsX5_seek := by decide +kernel
theorem m_X5_seek_72 : Cond.fieldLink RX5 72 "BackgroundRebuildModel" "high" "I" ∈ wsX5_seek := by decide +kernel
theorem m_X5_seek_7 : Cond.fieldLink RX5 7 "BackgroundRebuildModel" "z" "[I" ∈ wsX5_seek := by decide +kernel
theorem m_X5_seek_29 : Cond.fieldLink RX5 29 "BackgroundRebuildModel" "visited" "[I" ∈ wsX5_seek := by decide +kernel
theorem i_X5_seek_5 : ∀ w ∈ u_ws RX5 TX5 21, w ∈ wsX5_seek := by decide +kernel
theorem ok_X5_seek : yX5_seek.cls = RX5 ∧ yX5_seek.cls ≠ "java/lang/invoke/MethodHandle" ∧ yX5_seek.cls ≠ "java/lang/invoke/VarHandle" ∧ (parseMethodDescriptor yX5_seek.desc).map (fun d => d.parameters.length) = some 2 := by decide +kernel
set_option maxHeartbeats 4000000 in
set_option maxRecDepth 100000 in
theorem met_X5_seek (l : Launch) (D : va_G) (t : Nat → ClassId) (hM : Nat) (zA : Nat) (spA : Nat) (svA : Nat) (soA : Nat) (ikA : Nat) (txA : Nat) (viA : Nat) (srA : Nat) (frA : Nat) (toA : Nat) (hoA : Nat) (keA : Nat) (nsv : Int) (len : Int) (thr : Int) (nvi : Int) (low : Int) (high : Int) (nto : Int) (spo : Int) (mos : Int) (z : Nat → Int) (sp : Nat → Int) (sv : Nat → Int) (so : Nat → Int) (ik : Nat → Int) (tx : Nat → Int) (vi : Nat → Int) (sr : Nat → Int) (fr : Nat → Int) (to : Nat → Int) (ho : Nat → Int) (ke : Nat → Int) (x1 : Int) (x2 : Int) (Q : (Int) → (Int) → (Int) → (Nat → Int) → Prop) (hv : wp_X5_seek nvi low high z vi x1 x2 Q) : MV l D t yX5_seek wsX5_seek rm_X5_seek [.ref hM, .int (iI x1), .int (iI x2)] [oB hM 5 [.ref zA, .ref spA, .ref svA, .int (iI nsv), .ref soA, .ref ikA, .ref txA, .int (iI len), .int (iI thr), .int (iI nvi), .ref viA, .int (iI low), .int (iI high), .ref srA, .ref frA, .ref toA, .ref hoA, .ref keA, .int (iI nto), .int (iI spo), .int (iI mos)], aI t zA 646 z, aI t spA 646 sp, aI t svA 3876 sv, aI t soA 1292 so, aZ t ikA 2 ik, aI t txA 60 tx, aI t viA 120 vi, aI t srA 120 sr, aI t frA 122 fr, aI t toA 122 to, aI t hoA 31 ho, aI t keA 31 ke] (W1_X5_seek t hM zA spA svA soA ikA txA viA srA frA toA hoA keA nsv len thr nto spo mos z sp sv so ik tx sr fr to ho ke) (po_X5_seek Q) 0 0 := by
  refine M_ofv (cc := cX5_seek) (nL := 6) (by decide) rfl (Nat.le_of_ble_eq_true rfl) ?_
  intro p e s m args below meth c A hc hr
  have C_117 : ∀ (nvi : Int) (low : Int) (high : Int) (z : Nat → Int) (vi : Nat → Int) (x1 : Int) (x2 : Int) (x3 : Int) (x4 : Int) (x5 : Int) (s0 : Int) (K_22 : (Int) → (Int) → (Int) → (Nat → Int) → Int → Int → Prop) (hK_22 : ∀ (nvi : Int) (low : Int) (high : Int) (vi : Nat → Int) (x3 : Int) (x4 : Int), K_22 nvi low high vi x3 x4 → V p l e rm_X5_seek s m args below meth c D A 6 0 0 (MQ below (QV D A (W1_X5_seek t hM zA spA svA soA ikA txA viA srA frA toA hoA keA nsv len thr nto spo mos z sp sv so ik tx sr fr to ho ke) (po_X5_seek Q)) args s 0 0 A) 22 [(0, .ref hM), (1, .int (iI x1)), (2, .int (iI x2)), (3, .int (iI x3)), (4, .int (iI x4))] [] [oB hM 5 [.ref zA, .ref spA, .ref svA, .int (iI nsv), .ref soA, .ref ikA, .ref txA, .int (iI len), .int (iI thr), .int (iI nvi), .ref viA, .int (iI low), .int (iI high), .ref srA, .ref frA, .ref toA, .ref hoA, .ref keA, .int (iI nto), .int (iI spo), .int (iI mos)], aI t zA 646 z, aI t spA 646 sp, aI t svA 3876 sv, aI t soA 1292 so, aZ t ikA 2 ik, aI t txA 60 tx, aI t viA 120 vi, aI t srA 120 sr, aI t frA 122 fr, aI t toA 122 to, aI t hoA 31 ho, aI t keA 31 ke]), wp_X5_seek_117 nvi low high z vi x1 x2 x3 x4 x5 s0 Q K_22 → V p l e rm_X5_seek s m args below meth c D A 6 0 0 (MQ below (QV D A (W1_X5_seek t hM zA spA svA soA ikA txA viA srA frA toA hoA keA nsv len thr nto spo mos z sp sv so ik tx sr fr to ho ke) (po_X5_seek Q)) args s 0 0 A) 117 [(0, .ref hM), (1, .int (iI x1)), (2, .int (iI x2)), (3, .int (iI x3)), (4, .int (iI x4)), (5, .int (iI x5))] [.int (iI s0), .ref hM] [oB hM 5 [.ref zA, .ref spA, .ref svA, .int (iI nsv), .ref soA, .ref ikA, .ref txA, .int (iI len), .int (iI thr), .int (iI nvi), .ref viA, .int (iI low), .int (iI high), .ref srA, .ref frA, .ref toA, .ref hoA, .ref keA, .int (iI nto), .int (iI spo), .int (iI mos)], aI t zA 646 z, aI t spA 646 sp, aI t svA 3876 sv, aI t soA 1292 so, aZ t ikA 2 ik, aI t txA 60 tx, aI t viA 120 vi, aI t srA 120 sr, aI t frA 122 fr, aI t toA 122 to, aI t hoA 31 ho, aI t keA 31 ke] := by
    intro nvi low high z vi x1 x2 x3 x4 x5 s0 K_22 hK_22 hv
    unfold wp_X5_seek_117 at hv
    refine V_puti (C := RX5) (T := TX5) (N := 21) hc i_X5_seek_5 0 rfl rfl 12 (by decide) m_X5_seek_72 tyX5 tyX5_ok nmX5 rfl (by decide +kernel) (Nat.le_of_ble_eq_true rfl) dX5_seek_117 [oB hM 5 [.ref zA, .ref spA, .ref svA, .int (iI nsv), .ref soA, .ref ikA, .ref txA, .int (iI len), .int (iI thr), .int (iI nvi), .ref viA, .int (iI low), .int (iI s0), .ref srA, .ref frA, .ref toA, .ref hoA, .ref keA, .int (iI nto), .int (iI spo), .int (iI mos)], aI t zA 646 z, aI t spA 646 sp, aI t svA 3876 sv, aI t soA 1292 so, aZ t ikA 2 ik, aI t txA 60 tx, aI t viA 120 vi, aI t srA 120 sr, aI t frA 122 fr, aI t toA 122 to, aI t hoA 31 ho, aI t keA 31 ke] rfl ?_
    refine V_aload_n hc dX5_seek_120 0 rfl ?_
    refine V_iload_n hc dX5_seek_121 2 rfl ?_
    refine V_iload hc dX5_seek_122 5 rfl ?_
    refine V_icmp_le (tgt := 132) hc dX5_seek_124 (by decide) hv (fun hv => ?_) (fun hv => ?_)
    · refine V_aload_n hc dX5_seek_132 0 rfl ?_
      refine V_get (C := RX5) (T := TX5) (N := 21) hc i_X5_seek_5 0 rfl rfl 11 (by decide) m_X5_seek_69 rfl dX5_seek_133 ?_
      refine V_puti (C := RX5) (T := TX5) (N := 21) hc i_X5_seek_5 0 rfl rfl 11 (by decide) m_X5_seek_69 tyX5 tyX5_ok nmX5 rfl (by decide +kernel) (Nat.le_of_ble_eq_true rfl) dX5_seek_136 [oB hM 5 [.ref zA, .ref spA, .ref svA, .int (iI nsv), .ref soA, .ref ikA, .ref txA, .int (iI len), .int (iI thr), .int (iI nvi), .ref viA, .int (iI low), .int (iI s0), .ref srA, .ref frA, .ref toA, .ref hoA, .ref keA, .int (iI nto), .int (iI spo), .int (iI mos)], aI t zA 646 z, aI t spA 646 sp, aI t svA 3876 sv, aI t soA 1292 so, aZ t ikA 2 ik, aI t txA 60 tx, aI t viA 120 vi, aI t srA 120 sr, aI t frA 122 fr, aI t toA 122 to, aI t hoA 31 ho, aI t keA 31 ke] rfl ?_
      refine V_iinc hc dX5_seek_139 4 rfl [(4, .int (iI (x4 + 1))), (0, .ref hM), (1, .int (iI x1)), (2, .int (iI x2)), (3, .int (iI x3)), (5, .int (iI x5))] (by decide) rfl ?_
      refine V_goto (tgt := 22) hc dX5_seek_142 (by decide) ?_
      refine V_lv [1, 2, 3, 4, 0] [(0, .ref hM), (1, .int (iI x1)), (2, .int (iI x2)), (3, .int (iI x3)), (4, .int (iI (x4 + 1)))] rfl ?_
      exact hK_22 nvi low s0 vi x3 (x4 + 1) hv
    · refine V_iload hc dX5_seek_127 5 rfl ?_
      refine V_goto (tgt := 136) hc dX5_seek_129 (by decide) ?_
      refine V_puti (C := RX5) (T := TX5) (N := 21) hc i_X5_seek_5 0 rfl rfl 11 (by decide) m_X5_seek_69 tyX5 tyX5_ok nmX5 rfl (by decide +kernel) (Nat.le_of_ble_eq_true rfl) dX5_seek_136 [oB hM 5 [.ref zA, .ref spA, .ref svA, .int (iI nsv), .ref soA, .ref ikA, .ref txA, .int (iI len), .int (iI thr), .int (iI nvi), .ref viA, .int (iI x5), .int (iI s0), .ref srA, .ref frA, .ref toA, .ref hoA, .ref keA, .int (iI nto), .int (iI spo), .int (iI mos)], aI t zA 646 z, aI t spA 646 sp, aI t svA 3876 sv, aI t soA 1292 so, aZ t ikA 2 ik, aI t txA 60 tx, aI t viA 120 vi, aI t srA 120 sr, aI t frA 122 fr, aI t toA 122 to, aI t hoA 31 ho, aI t keA 31 ke] rfl ?_
      refine V_iinc hc dX5_seek_139 4 rfl [(4, .int (iI (x4 + 1))), (0, .ref hM), (1, .int (iI x1)), (2, .int (iI x2)), (3, .int (iI x3)), (5, .int (iI x5))] (by decide) rfl ?_
      refine V_goto (tgt := 22) hc dX5_seek_142 (by decide) ?_
      refine V_lv [1, 2, 3, 4, 0] [(0, .ref hM), (1, .int (iI x1)), (2, .int (iI x2)), (3, .int (iI x3)), (4, .int (iI (x4 + 1)))] rfl ?_
      exact hK_22 nvi x5 s0 vi x3 (x4 + 1) hv
  have C_100 : ∀ (nvi : Int) (low : Int) (high : Int) (z : Nat → Int) (vi : Nat → Int) (x1 : Int) (x2 : Int) (x4 : Int) (x5 : Int) (s0 : Int) (K_22 : (Int) → (Int) → (Int) → (Nat → Int) → Int → Int → Prop) (hK_22 : ∀ (nvi : Int) (low : Int) (high : Int) (vi : Nat → Int) (x3 : Int) (x4 : Int), K_22 nvi low high vi x3 x4 → V p l e rm_X5_seek s m args below meth c D A 6 0 0 (MQ below (QV D A (W1_X5_seek t hM zA spA svA soA ikA txA viA srA frA toA hoA keA nsv len thr nto spo mos z sp sv so ik tx sr fr to ho ke) (po_X5_seek Q)) args s 0 0 A) 22 [(0, .ref hM), (1, .int (iI x1)), (2, .int (iI x2)), (3, .int (iI x3)), (4, .int (iI x4))] [] [oB hM 5 [.ref zA, .ref spA, .ref svA, .int (iI nsv), .ref soA, .ref ikA, .ref txA, .int (iI len), .int (iI thr), .int (iI nvi), .ref viA, .int (iI low), .int (iI high), .ref srA, .ref frA, .ref toA, .ref hoA, .ref keA, .int (iI nto), .int (iI spo), .int (iI mos)], aI t zA 646 z, aI t spA 646 sp, aI t svA 3876 sv, aI t soA 1292 so, aZ t ikA 2 ik, aI t txA 60 tx, aI t viA 120 vi, aI t srA 120 sr, aI t frA 122 fr, aI t toA 122 to, aI t hoA 31 ho, aI t keA 31 ke]), wp_X5_seek_100 nvi low high z vi x1 x2 x4 x5 s0 Q K_22 → V p l e rm_X5_seek s m args below meth c D A 6 0 0 (MQ below (QV D A (W1_X5_seek t hM zA spA svA soA ikA txA viA srA frA toA hoA keA nsv len thr nto spo mos z sp sv so ik tx sr fr to ho ke) (po_X5_seek Q)) args s 0 0 A) 100 [(0, .ref hM), (1, .int (iI x1)), (2, .int (iI x2)), (4, .int (iI x4)), (5, .int (iI x5))] [.int (iI s0)] [oB hM 5 [.ref zA, .ref spA, .ref svA, .int (iI nsv), .ref soA, .ref ikA, .ref txA, .int (iI len), .int (iI thr), .int (iI nvi), .ref viA, .int (iI low), .int (iI high), .ref srA, .ref frA, .ref toA, .ref hoA, .ref keA, .int (iI nto), .int (iI spo), .int (iI mos)], aI t zA 646 z, aI t spA 646 sp, aI t svA 3876 sv, aI t soA 1292 so, aZ t ikA 2 ik, aI t txA 60 tx, aI t viA 120 vi, aI t srA 120 sr, aI t frA 122 fr, aI t toA 122 to, aI t hoA 31 ho, aI t keA 31 ke] := by
    intro nvi low high z vi x1 x2 x4 x5 s0 K_22 hK_22 hv
    unfold wp_X5_seek_100 at hv
    refine V_istore_n hc dX5_seek_100 [(3, .int (iI s0)), (0, .ref hM), (1, .int (iI x1)), (2, .int (iI x2)), (4, .int (iI x4)), (5, .int (iI x5))] (by decide) rfl ?_
    refine V_aload_n hc dX5_seek_101 1 rfl ?_
    refine V_iload_n hc dX5_seek_102 3 rfl ?_
    refine V_iload hc dX5_seek_103 5 rfl ?_
    refine V_icmp_ge (tgt := 113) hc dX5_seek_105 (by decide) hv (fun hv => ?_) (fun hv => ?_)
    · refine V_aload_n hc dX5_seek_113 1 rfl ?_
      refine V_get (C := RX5) (T := TX5) (N := 21) hc i_X5_seek_5 0 rfl rfl 12 (by decide) m_X5_seek_72 rfl dX5_seek_114 ?_
      refine V_lv [1, 2, 3, 0, 4, 5] [(0, .ref hM), (1, .int (iI x1)), (2, .int (iI x2)), (3, .int (iI s0)), (4, .int (iI x4)), (5, .int (iI x5))] rfl ?_
      exact C_117 nvi low high z vi x1 x2 s0 x4 x5 high K_22 hK_22 hv
    · refine V_iload hc dX5_seek_108 5 rfl ?_
      refine V_goto (tgt := 117) hc dX5_seek_110 (by decide) ?_
      refine V_lv [1, 2, 3, 0, 4, 5] [(0, .ref hM), (1, .int (iI x1)), (2, .int (iI x2)), (3, .int (iI s0)), (4, .int (iI x4)), (5, .int (iI x5))] rfl ?_
      exact C_117 nvi low high z vi x1 x2 s0 x4 x5 x5 K_22 hK_22 hv
  have L_22 : ∀ (z : Nat → Int) (x1 : Int) (x2 : Int) (n9 : Nat) (nvi : Int) (low : Int) (high : Int) (vi : Nat → Int) (x3 : Int) (x4 : Int), lq6 (wp_X5_seek_22 z x1 x2 Q) n9 nvi low high vi x3 x4 → V p l e rm_X5_seek s m args below meth c D A 6 0 0 (MQ below (QV D A (W1_X5_seek t hM zA spA svA soA ikA txA viA srA frA toA hoA keA nsv len thr nto spo mos z sp sv so ik tx sr fr to ho ke) (po_X5_seek Q)) args s 0 0 A) 22 [(0, .ref hM), (1, .int (iI x1)), (2, .int (iI x2)), (3, .int (iI x3)), (4, .int (iI x4))] [] [oB hM 5 [.ref zA, .ref spA, .ref svA, .int (iI nsv), .ref soA, .ref ikA, .ref txA, .int (iI len), .int (iI thr), .int (iI nvi), .ref viA, .int (iI low), .int (iI high), .ref srA, .ref frA, .ref toA, .ref hoA, .ref keA, .int (iI nto), .int (iI spo), .int (iI mos)], aI t zA 646 z, aI t spA 646 sp, aI t svA 3876 sv, aI t soA 1292 so, aZ t ikA 2 ik, aI t txA 60 tx, aI t viA 120 vi, aI t srA 120 sr, aI t frA 122 fr, aI t toA 122 to, aI t hoA 31 ho, aI t keA 31 ke] := by
    intro z x1 x2 n9
    induction n9 with
    | zero =>
      intro nvi low high vi x3 x4 hv
      exact hv.elim
    | succ n9 ih =>
      intro nvi low high vi x3 x4 hv
      have hv : wp_X5_seek_22 z x1 x2 Q (lq6 (wp_X5_seek_22 z x1 x2 Q) n9) nvi low high vi x3 x4 := hv
      generalize lq6 (wp_X5_seek_22 z x1 x2 Q) n9 = K_22 at hv ih
      have hK_22 := ih
      unfold wp_X5_seek_22 at hv
      refine V_iload hc dX5_seek_22 4 rfl ?_
      refine V_aload_n hc dX5_seek_24 0 rfl ?_
      refine V_get (C := RX5) (T := TX5) (N := 21) hc i_X5_seek_5 0 rfl rfl 0 (by decide) m_X5_seek_7 rfl dX5_seek_25 ?_
      refine V_iload_n hc dX5_seek_28 1 rfl ?_
      refine V_iald hc 1 rfl (by decide) hv dX5_seek_29 (fun hv => ?_)
      refine V_icmp_ge (tgt := 145) hc dX5_seek_30 (by decide) hv (fun hv => ?_) (fun hv => ?_)
      · exact V_vret hc hr (nvi, low, high, vi) hv rfl dX5_seek_145
      · refine V_iload_n hc dX5_seek_33 3 rfl ?_
        refine V_if_ne (tgt := 145) hc dX5_seek_34 (by decide) hv (fun hv => ?_) (fun hv => ?_)
        · exact V_vret hc hr (nvi, low, high, vi) hv rfl dX5_seek_145
        · refine V_aload_n hc dX5_seek_37 0 rfl ?_
          refine V_get (C := RX5) (T := TX5) (N := 21) hc i_X5_seek_5 0 rfl rfl 0 (by decide) m_X5_seek_7 rfl dX5_seek_38 ?_
          refine V_iload_n hc dX5_seek_41 1 rfl ?_
          refine V_iconst hc dX5_seek_42 ?_
          refine V_iadd hc dX5_seek_43 ?_
          refine V_iload hc dX5_seek_44 4 rfl ?_
          refine V_iadd hc dX5_seek_46 ?_
          refine V_iald hc 1 rfl (by decide) hv dX5_seek_47 (fun hv => ?_)
          refine V_istore hc dX5_seek_48 [(5, .int (iI (z ((x1 + 1) + x4).toNat))), (0, .ref hM), (1, .int (iI x1)), (2, .int (iI x2)), (3, .int (iI x3)), (4, .int (iI x4))] (by decide) rfl ?_
          refine V_iload hc dX5_seek_50 0 rfl ?_
          refine V_aload_n hc dX5_seek_52 1 rfl ?_
          refine V_get (C := RX5) (T := TX5) (N := 21) hc i_X5_seek_5 0 rfl rfl 11 (by decide) m_X5_seek_69 rfl dX5_seek_53 ?_
          refine V_icmp_le (tgt := 139) hc dX5_seek_56 (by decide) hv (fun hv => ?_) (fun hv => ?_)
          · refine V_iinc hc dX5_seek_139 5 rfl [(4, .int (iI (x4 + 1))), (5, .int (iI (z ((x1 + 1) + x4).toNat))), (0, .ref hM), (1, .int (iI x1)), (2, .int (iI x2)), (3, .int (iI x3))] (by decide) rfl ?_
            refine V_goto (tgt := 22) hc dX5_seek_142 (by decide) ?_
            refine V_lv [2, 3, 4, 5, 0] [(0, .ref hM), (1, .int (iI x1)), (2, .int (iI x2)), (3, .int (iI x3)), (4, .int (iI (x4 + 1)))] rfl ?_
            exact hK_22 nvi low high vi x3 (x4 + 1) hv
          · refine V_iload hc dX5_seek_59 0 rfl ?_
            refine V_aload_n hc dX5_seek_61 1 rfl ?_
            refine V_get (C := RX5) (T := TX5) (N := 21) hc i_X5_seek_5 0 rfl rfl 12 (by decide) m_X5_seek_72 rfl dX5_seek_62 ?_
            refine V_icmp_ge (tgt := 139) hc dX5_seek_65 (by decide) hv (fun hv => ?_) (fun hv => ?_)
            · refine V_iinc hc dX5_seek_139 5 rfl [(4, .int (iI (x4 + 1))), (5, .int (iI (z ((x1 + 1) + x4).toNat))), (0, .ref hM), (1, .int (iI x1)), (2, .int (iI x2)), (3, .int (iI x3))] (by decide) rfl ?_
              refine V_goto (tgt := 22) hc dX5_seek_142 (by decide) ?_
              refine V_lv [2, 3, 4, 5, 0] [(0, .ref hM), (1, .int (iI x1)), (2, .int (iI x2)), (3, .int (iI x3)), (4, .int (iI (x4 + 1)))] rfl ?_
              exact hK_22 nvi low high vi x3 (x4 + 1) hv
            · refine V_aload_n hc dX5_seek_68 1 rfl ?_
              refine V_get (C := RX5) (T := TX5) (N := 21) hc i_X5_seek_5 0 rfl rfl 10 (by decide) m_X5_seek_29 rfl dX5_seek_69 ?_
              refine V_aload_n hc dX5_seek_72 1 rfl ?_
              refine V_get (C := RX5) (T := TX5) (N := 21) hc i_X5_seek_5 0 rfl rfl 9 (by decide) m_X5_seek_66 rfl dX5_seek_73 ?_
              refine V_iload hc dX5_seek_76 0 rfl ?_
              refine V_iast hc 7 rfl (by decide) hv dX5_seek_78 [oB hM 5 [.ref zA, .ref spA, .ref svA, .int (iI nsv), .ref soA, .ref ikA, .ref txA, .int (iI len), .int (iI thr), .int (iI nvi), .ref viA, .int (iI low), .int (iI high), .ref srA, .ref frA, .ref toA, .ref hoA, .ref keA, .int (iI nto), .int (iI spo), .int (iI mos)], aI t zA 646 z, aI t spA 646 sp, aI t svA 3876 sv, aI t soA 1292 so, aZ t ikA 2 ik, aI t txA 60 tx, aI t viA 120 (uI vi (nvi.toNat) (z ((x1 + 1) + x4).toNat)), aI t srA 120 sr, aI t frA 122 fr, aI t toA 122 to, aI t hoA 31 ho, aI t keA 31 ke] rfl (fun hv => ?_)
              refine V_aload_n hc dX5_seek_79 1 rfl ?_
              refine V_dup hc dX5_seek_80 rfl ?_
              refine V_get (C := RX5) (T := TX5) (N := 21) hc i_X5_seek_5 0 rfl rfl 9 (by decide) m_X5_seek_66 rfl dX5_seek_81 ?_
              refine V_iconst hc dX5_seek_84 ?_
              refine V_iadd hc dX5_seek_85 ?_
              refine V_puti (C := RX5) (T := TX5) (N := 21) hc i_X5_seek_5 0 rfl rfl 9 (by decide) m_X5_seek_66 tyX5 tyX5_ok nmX5 rfl (by decide +kernel) (Nat.le_of_ble_eq_true rfl) dX5_seek_86 [oB hM 5 [.ref zA, .ref spA, .ref svA, .int (iI nsv), .ref soA, .ref ikA, .ref txA, .int (iI len), .int (iI thr), .int (iI (nvi + 1)), .ref viA, .int (iI low), .int (iI high), .ref srA, .ref frA, .ref toA, .ref hoA, .ref keA, .int (iI nto), .int (iI spo), .int (iI mos)], aI t zA 646 z, aI t spA 646 sp, aI t svA 3876 sv, aI t soA 1292 so, aZ t ikA 2 ik, aI t txA 60 tx, aI t viA 120 (uI vi (nvi.toNat) (z ((x1 + 1) + x4).toNat)), aI t srA 120 sr, aI t frA 122 fr, aI t toA 122 to, aI t hoA 31 ho, aI t keA 31 ke] rfl ?_
              refine V_iload hc dX5_seek_89 0 rfl ?_
              refine V_iload_n hc dX5_seek_91 3 rfl ?_
              refine V_icmp_ne (tgt := 99) hc dX5_seek_92 (by decide) hv (fun hv => ?_) (fun hv => ?_)
              · refine V_iconst hc dX5_seek_99 ?_
                refine V_lv [1, 2, 3, 5, 0] [(0, .ref hM), (1, .int (iI x1)), (2, .int (iI x2)), (4, .int (iI x4)), (5, .int (iI (z ((x1 + 1) + x4).toNat)))] rfl ?_
                exact C_100 (nvi + 1) low high z (uI vi (nvi.toNat) (z ((x1 + 1) + x4).toNat)) x1 x2 x4 (z ((x1 + 1) + x4).toNat) 0 K_22 hK_22 hv
              · refine V_iconst hc dX5_seek_95 ?_
                refine V_goto (tgt := 100) hc dX5_seek_96 (by decide) ?_
                refine V_lv [1, 2, 3, 5, 0] [(0, .ref hM), (1, .int (iI x1)), (2, .int (iI x2)), (4, .int (iI x4)), (5, .int (iI (z ((x1 + 1) + x4).toNat)))] rfl ?_
                exact C_100 (nvi + 1) low high z (uI vi (nvi.toNat) (z ((x1 + 1) + x4).toNat)) x1 x2 x4 (z ((x1 + 1) + x4).toNat) 1 K_22 hK_22 hv
  refine V_lv [0, 1, 2] [(0, .ref hM), (1, .int (iI x1)), (2, .int (iI x2))] rfl ?_
  unfold wp_X5_seek at hv
  refine V_aload_n hc dX5_seek_0 0 rfl ?_
  refine V_iconst hc dX5_seek_1 ?_
  refine V_puti (C := RX5) (T := TX5) (N := 21) hc i_X5_seek_5 0 rfl rfl 9 (by decide) m_X5_seek_66 tyX5 tyX5_ok nmX5 rfl (by decide +kernel) (Nat.le_of_ble_eq_true rfl) dX5_seek_2 [oB hM 5 [.ref zA, .ref spA, .ref svA, .int (iI nsv), .ref soA, .ref ikA, .ref txA, .int (iI len), .int (iI thr), .int (iI 0), .ref viA, .int (iI low), .int (iI high), .ref srA, .ref frA, .ref toA, .ref hoA, .ref keA, .int (iI nto), .int (iI spo), .int (iI mos)], aI t zA 646 z, aI t spA 646 sp, aI t svA 3876 sv, aI t soA 1292 so, aZ t ikA 2 ik, aI t txA 60 tx, aI t viA 120 vi, aI t srA 120 sr, aI t frA 122 fr, aI t toA 122 to, aI t hoA 31 ho, aI t keA 31 ke] rfl ?_
  refine V_aload_n hc dX5_seek_5 0 rfl ?_
  refine V_iconst hc dX5_seek_6 ?_
  refine V_puti (C := RX5) (T := TX5) (N := 21) hc i_X5_seek_5 0 rfl rfl 11 (by decide) m_X5_seek_69 tyX5 tyX5_ok nmX5 rfl (by decide +kernel) (Nat.le_of_ble_eq_true rfl) dX5_seek_7 [oB hM 5 [.ref zA, .ref spA, .ref svA, .int (iI nsv), .ref soA, .ref ikA, .ref txA, .int (iI len), .int (iI thr), .int (iI 0), .ref viA, .int (iI (-1)), .int (iI high), .ref srA, .ref frA, .ref toA, .ref hoA, .ref keA, .int (iI nto), .int (iI spo), .int (iI mos)], aI t zA 646 z, aI t spA 646 sp, aI t svA 3876 sv, aI t soA 1292 so, aZ t ikA 2 ik, aI t txA 60 tx, aI t viA 120 vi, aI t srA 120 sr, aI t frA 122 fr, aI t toA 122 to, aI t hoA 31 ho, aI t keA 31 ke] rfl ?_
  refine V_aload_n hc dX5_seek_10 0 rfl ?_
  refine V_sipush hc dX5_seek_11 (by decide) ?_
  refine V_puti (C := RX5) (T := TX5) (N := 21) hc i_X5_seek_5 0 rfl rfl 12 (by decide) m_X5_seek_72 tyX5 tyX5_ok nmX5 rfl (by decide +kernel) (Nat.le_of_ble_eq_true rfl) dX5_seek_14 [oB hM 5 [.ref zA, .ref spA, .ref svA, .int (iI nsv), .ref soA, .ref ikA, .ref txA, .int (iI len), .int (iI thr), .int (iI 0), .ref viA, .int (iI (-1)), .int (iI 500), .ref srA, .ref frA, .ref toA, .ref hoA, .ref keA, .int (iI nto), .int (iI spo), .int (iI mos)], aI t zA 646 z, aI t spA 646 sp, aI t svA 3876 sv, aI t soA 1292 so, aZ t ikA 2 ik, aI t txA 60 tx, aI t viA 120 vi, aI t srA 120 sr, aI t frA 122 fr, aI t toA 122 to, aI t hoA 31 ho, aI t keA 31 ke] rfl ?_
  refine V_iconst hc dX5_seek_17 ?_
  refine V_istore_n hc dX5_seek_18 [(3, .int (iI 0)), (0, .ref hM), (1, .int (iI x1)), (2, .int (iI x2))] (by decide) rfl ?_
  refine V_iconst hc dX5_seek_19 ?_
  refine V_istore hc dX5_seek_20 [(4, .int (iI 0)), (3, .int (iI 0)), (0, .ref hM), (1, .int (iI x1)), (2, .int (iI x2))] (by decide) rfl ?_
  refine V_lv [2, 3, 4, 1, 0] [(0, .ref hM), (1, .int (iI x1)), (2, .int (iI x2)), (3, .int (iI 0)), (4, .int (iI 0))] rfl ?_
  obtain ⟨n9, hv⟩ := hv
  exact L_22 z x1 x2 n9 0 (-1) 500 vi 0 0 hv
abbrev W1_X5_put (t : Nat → ClassId) (hM : Nat) (zA : Nat) (spA : Nat) (svA : Nat) (soA : Nat) (ikA : Nat) (txA : Nat) (viA : Nat) (srA : Nat) (frA : Nat) (toA : Nat) (hoA : Nat) (keA : Nat) (nsv : Int) (len : Int) (thr : Int) (nvi : Int) (low : Int) (high : Int) (nto : Int) (spo : Int) (mos : Int) (sp : Nat → Int) (sv : Nat → Int) (so : Nat → Int) (ik : Nat → Int) (tx : Nat → Int) (vi : Nat → Int) (sr : Nat → Int) (fr : Nat → Int) (to : Nat → Int) (ho : Nat → Int) (ke : Nat → Int) (u : (Nat → Int)) : va_W := [oB hM 5 [.ref zA, .ref spA, .ref svA, .int (iI nsv), .ref soA, .ref ikA, .ref txA, .int (iI len), .int (iI thr), .int (iI nvi), .ref viA, .int (iI low), .int (iI high), .ref srA, .ref frA, .ref toA, .ref hoA, .ref keA, .int (iI nto), .int (iI spo), .int (iI mos)], aI t zA 646 u, aI t spA 646 sp, aI t svA 3876 sv, aI t soA 1292 so, aZ t ikA 2 ik, aI t txA 60 tx, aI t viA 120 vi, aI t srA 120 sr, aI t frA 122 fr, aI t toA 122 to, aI t hoA 31 ho, aI t keA 31 ke]
abbrev po_X5_put (Q : (Nat → Int) → Prop) (u : (Nat → Int)) : Prop := Q u
abbrev rm_X5_put : Room := { frames := 1, cells := 0, slots := 0, locals := 24 }
def wp_X5_put_40 (z : Nat → Int) (x1 : Int) (x3 : Int) (Q : (Nat → Int) → Prop) : Prop := (0 ≤ (x1 + 121) + x3 ∧ (x1 + 121) + x3 < 646) ∧ Q (uI z (((x1 + 121) + x3).toNat) 0)
def wp_X5_put (z : Nat → Int) (x1 : Int) (x2 : Int) (Q : (Nat → Int) → Prop) : Prop := wp_X5_placeOf z x1 x2 (fun r_1 => inR r_1 ∧ (r_1 ≠ (-1) → wp_X5_put_40 z x1 r_1 Q) ∧ (¬ (r_1 ≠ (-1)) → (0 ≤ x1 ∧ x1 < 646) ∧ (0 ≤ (x1 + 1) + (z x1.toNat) ∧ (x1 + 1) + (z x1.toNat) < 646) ∧ (0 ≤ x1 ∧ x1 < 646) ∧ (0 ≤ x1 ∧ x1 < 646) ∧ wp_X5_put_40 (uI (uI z (((x1 + 1) + (z x1.toNat)).toNat) x2) (x1.toNat) (((uI z (((x1 + 1) + (z x1.toNat)).toNat) x2) x1.toNat) + 1)) x1 (z x1.toNat) Q))
theorem m_X5_put_7 : Cond.fieldLink RX5 7 "BackgroundRebuildModel" "z" "[I" ∈ wsX5_put := by decide +kernel
theorem i_X5_put_5 : ∀ w ∈ u_ws RX5 TX5 21, w ∈ wsX5_put := by decide +kernel
theorem ok_X5_put : yX5_put.cls = RX5 ∧ yX5_put.cls ≠ "java/lang/invoke/MethodHandle" ∧ yX5_put.cls ≠ "java/lang/invoke/VarHandle" ∧ (parseMethodDescriptor yX5_put.desc).map (fun d => d.parameters.length) = some 2 := by decide +kernel
set_option maxHeartbeats 4000000 in
set_option maxRecDepth 100000 in
theorem met_X5_put (l : Launch) (D : va_G) (t : Nat → ClassId) (hM : Nat) (zA : Nat) (spA : Nat) (svA : Nat) (soA : Nat) (ikA : Nat) (txA : Nat) (viA : Nat) (srA : Nat) (frA : Nat) (toA : Nat) (hoA : Nat) (keA : Nat) (nsv : Int) (len : Int) (thr : Int) (nvi : Int) (low : Int) (high : Int) (nto : Int) (spo : Int) (mos : Int) (z : Nat → Int) (sp : Nat → Int) (sv : Nat → Int) (so : Nat → Int) (ik : Nat → Int) (tx : Nat → Int) (vi : Nat → Int) (sr : Nat → Int) (fr : Nat → Int) (to : Nat → Int) (ho : Nat → Int) (ke : Nat → Int) (x1 : Int) (x2 : Int) (Q : (Nat → Int) → Prop) (hv : wp_X5_put z x1 x2 Q) : MV l D t yX5_put wsX5_put rm_X5_put [.ref hM, .int (iI x1), .int (iI x2)] [oB hM 5 [.ref zA, .ref spA, .ref svA, .int (iI nsv), .ref soA, .ref ikA, .ref txA, .int (iI len), .int (iI thr), .int (iI nvi), .ref viA, .int (iI low), .int (iI high), .ref srA, .ref frA, .ref toA, .ref hoA, .ref keA, .int (iI nto), .int (iI spo), .int (iI mos)], aI t zA 646 z, aI t spA 646 sp, aI t svA 3876 sv, aI t soA 1292 so, aZ t ikA 2 ik, aI t txA 60 tx, aI t viA 120 vi, aI t srA 120 sr, aI t frA 122 fr, aI t toA 122 to, aI t hoA 31 ho, aI t keA 31 ke] (W1_X5_put t hM zA spA svA soA ikA txA viA srA frA toA hoA keA nsv len thr nvi low high nto spo mos sp sv so ik tx vi sr fr to ho ke) (po_X5_put Q) 0 0 := by
  refine M_ofv (cc := cX5_put) (nL := 4) (by decide) rfl (Nat.le_of_ble_eq_true rfl) ?_
  intro p e s m args below meth c A hc hr
  have C_40 : ∀ (z : Nat → Int) (x1 : Int) (x3 : Int), wp_X5_put_40 z x1 x3 Q → V p l e rm_X5_put s m args below meth c D A 4 0 0 (MQ below (QV D A (W1_X5_put t hM zA spA svA soA ikA txA viA srA frA toA hoA keA nsv len thr nvi low high nto spo mos sp sv so ik tx vi sr fr to ho ke) (po_X5_put Q)) args s 0 0 A) 40 [(0, .ref hM), (1, .int (iI x1)), (3, .int (iI x3))] [] [oB hM 5 [.ref zA, .ref spA, .ref svA, .int (iI nsv), .ref soA, .ref ikA, .ref txA, .int (iI len), .int (iI thr), .int (iI nvi), .ref viA, .int (iI low), .int (iI high), .ref srA, .ref frA, .ref toA, .ref hoA, .ref keA, .int (iI nto), .int (iI spo), .int (iI mos)], aI t zA 646 z, aI t spA 646 sp, aI t svA 3876 sv, aI t soA 1292 so, aZ t ikA 2 ik, aI t txA 60 tx, aI t viA 120 vi, aI t srA 120 sr, aI t frA 122 fr, aI t toA 122 to, aI t hoA 31 ho, aI t keA 31 ke] := by
    intro z x1 x3 hv
    unfold wp_X5_put_40 at hv
    refine V_aload_n hc dX5_put_40 0 rfl ?_
    refine V_get (C := RX5) (T := TX5) (N := 21) hc i_X5_put_5 0 rfl rfl 0 (by decide) m_X5_put_7 rfl dX5_put_41 ?_
    refine V_iload_n hc dX5_put_44 1 rfl ?_
    refine V_bipush hc dX5_put_45 (by decide) ?_
    refine V_iadd hc dX5_put_47 ?_
    refine V_iload_n hc dX5_put_48 2 rfl ?_
    refine V_iadd hc dX5_put_49 ?_
    refine V_iconst hc dX5_put_50 ?_
    refine V_iast hc 1 rfl (by decide) hv dX5_put_51 [oB hM 5 [.ref zA, .ref spA, .ref svA, .int (iI nsv), .ref soA, .ref ikA, .ref txA, .int (iI len), .int (iI thr), .int (iI nvi), .ref viA, .int (iI low), .int (iI high), .ref srA, .ref frA, .ref toA, .ref hoA, .ref keA, .int (iI nto), .int (iI spo), .int (iI mos)], aI t zA 646 (uI z (((x1 + 121) + x3).toNat) 0), aI t spA 646 sp, aI t svA 3876 sv, aI t soA 1292 so, aZ t ikA 2 ik, aI t txA 60 tx, aI t viA 120 vi, aI t srA 120 sr, aI t frA 122 fr, aI t toA 122 to, aI t hoA 31 ho, aI t keA 31 ke] rfl (fun hv => ?_)
    exact V_vret hc hr (uI z (((x1 + 121) + x3).toNat) 0) hv rfl dX5_put_52
  refine V_lv [0, 1, 2] [(0, .ref hM), (1, .int (iI x1)), (2, .int (iI x2))] rfl ?_
  unfold wp_X5_put at hv
  refine V_aload_n hc dX5_put_0 0 rfl ?_
  refine V_iload_n hc dX5_put_1 1 rfl ?_
  refine V_iload_n hc dX5_put_2 2 rfl ?_
  refine V_callVI (As := [.int (iI x1), .int (iI x2)]) hc (wc := [oB hM 5 [.ref zA, .ref spA, .ref svA, .int (iI nsv), .ref soA, .ref ikA, .ref txA, .int (iI len), .int (iI thr), .int (iI nvi), .ref viA, .int (iI low), .int (iI high), .ref srA, .ref frA, .ref toA, .ref hoA, .ref keA, .int (iI nto), .int (iI spo), .int (iI mos)], aI t zA 646 z, aI t spA 646 sp, aI t svA 3876 sv, aI t soA 1292 so, aZ t ikA 2 ik, aI t txA 60 tx, aI t viA 120 vi, aI t srA 120 sr, aI t frA 122 fr, aI t toA 122 to, aI t hoA 31 ho, aI t keA 31 ke]) (wr := []) (pmI (ws := [oB hM 5 [.ref zA, .ref spA, .ref svA, .int (iI nsv), .ref soA, .ref ikA, .ref txA, .int (iI len), .int (iI thr), .int (iI nvi), .ref viA, .int (iI low), .int (iI high), .ref srA, .ref frA, .ref toA, .ref hoA, .ref keA, .int (iI nto), .int (iI spo), .int (iI mos)], aI t zA 646 z, aI t spA 646 sp, aI t svA 3876 sv, aI t soA 1292 so, aZ t ikA 2 ik, aI t txA 60 tx, aI t viA 120 vi, aI t srA 120 sr, aI t frA 122 fr, aI t toA 122 to, aI t hoA 31 ho, aI t keA 31 ke]) (ws1 := [oB hM 5 [.ref zA, .ref spA, .ref svA, .int (iI nsv), .ref soA, .ref ikA, .ref txA, .int (iI len), .int (iI thr), .int (iI nvi), .ref viA, .int (iI low), .int (iI high), .ref srA, .ref frA, .ref toA, .ref hoA, .ref keA, .int (iI nto), .int (iI spo), .int (iI mos)], aI t zA 646 z, aI t spA 646 sp, aI t svA 3876 sv, aI t soA 1292 so, aZ t ikA 2 ik, aI t txA 60 tx, aI t viA 120 vi, aI t srA 120 sr, aI t frA 122 fr, aI t toA 122 to, aI t hoA 31 ho, aI t keA 31 ke] ++ []) [0, 1, 2, 3, 4, 5, 6, 7, 8, 9, 10, 11, 12] 13 rfl (by decide +kernel) rfl) rfl rfl (met_X5_placeOf l D t hM zA spA svA soA ikA txA viA srA frA toA hoA keA nsv len thr nvi low high nto spo mos z sp sv so ik tx vi sr fr to ho ke x1 x2 _ hv) rfl gX5_put_X5_placeOf rfl ⟨rfl, rfl⟩ ok_X5_placeOf (by decide) (Nat.le_of_ble_eq_true rfl) dX5_put_3 (by decide) (fun r_1 _ hv => ?_)
  try dsimp only at hv
  refine V_perm (ws1 := [oB hM 5 [.ref zA, .ref spA, .ref svA, .int (iI nsv), .ref soA, .ref ikA, .ref txA, .int (iI len), .int (iI thr), .int (iI nvi), .ref viA, .int (iI low), .int (iI high), .ref srA, .ref frA, .ref toA, .ref hoA, .ref keA, .int (iI nto), .int (iI spo), .int (iI mos)], aI t zA 646 z, aI t spA 646 sp, aI t svA 3876 sv, aI t soA 1292 so, aZ t ikA 2 ik, aI t txA 60 tx, aI t viA 120 vi, aI t srA 120 sr, aI t frA 122 fr, aI t toA 122 to, aI t hoA 31 ho, aI t keA 31 ke]) (pmI (ws := [oB hM 5 [.ref zA, .ref spA, .ref svA, .int (iI nsv), .ref soA, .ref ikA, .ref txA, .int (iI len), .int (iI thr), .int (iI nvi), .ref viA, .int (iI low), .int (iI high), .ref srA, .ref frA, .ref toA, .ref hoA, .ref keA, .int (iI nto), .int (iI spo), .int (iI mos)], aI t zA 646 z, aI t spA 646 sp, aI t svA 3876 sv, aI t soA 1292 so, aZ t ikA 2 ik, aI t txA 60 tx, aI t viA 120 vi, aI t srA 120 sr, aI t frA 122 fr, aI t toA 122 to, aI t hoA 31 ho, aI t keA 31 ke] ++ []) (ws1 := [oB hM 5 [.ref zA, .ref spA, .ref svA, .int (iI nsv), .ref soA, .ref ikA, .ref txA, .int (iI len), .int (iI thr), .int (iI nvi), .ref viA, .int (iI low), .int (iI high), .ref srA, .ref frA, .ref toA, .ref hoA, .ref keA, .int (iI nto), .int (iI spo), .int (iI mos)], aI t zA 646 z, aI t spA 646 sp, aI t svA 3876 sv, aI t soA 1292 so, aZ t ikA 2 ik, aI t txA 60 tx, aI t viA 120 vi, aI t srA 120 sr, aI t frA 122 fr, aI t toA 122 to, aI t hoA 31 ho, aI t keA 31 ke]) [0, 1, 2, 3, 4, 5, 6, 7, 8, 9, 10, 11, 12] 13 rfl (by decide +kernel) rfl) ?_
  refine V_istore_n hc dX5_put_6 [(3, .int (iI r_1)), (0, .ref hM), (1, .int (iI x1)), (2, .int (iI x2))] (by decide) rfl ?_
  refine V_iload_n hc dX5_put_7 0 rfl ?_
  refine V_iconst hc dX5_put_8 ?_
  refine V_icmp_ne (tgt := 40) hc dX5_put_9 (by decide) ⟨hv.1, by decide, hv.2⟩ (fun hv => ?_) (fun hv => ?_)
  · refine V_lv [1, 2, 0] [(0, .ref hM), (1, .int (iI x1)), (3, .int (iI r_1))] rfl ?_
    exact C_40 z x1 r_1 hv
  · refine V_aload_n hc dX5_put_12 1 rfl ?_
    refine V_get (C := RX5) (T := TX5) (N := 21) hc i_X5_put_5 0 rfl rfl 0 (by decide) m_X5_put_7 rfl dX5_put_13 ?_
    refine V_iload_n hc dX5_put_16 2 rfl ?_
    refine V_iald hc 1 rfl (by decide) hv dX5_put_17 (fun hv => ?_)
    refine V_istore_n hc dX5_put_18 [(3, .int (iI (z x1.toNat))), (0, .ref hM), (1, .int (iI x1)), (2, .int (iI x2))] (by decide) rfl ?_
    refine V_aload_n hc dX5_put_19 1 rfl ?_
    refine V_get (C := RX5) (T := TX5) (N := 21) hc i_X5_put_5 0 rfl rfl 0 (by decide) m_X5_put_7 rfl dX5_put_20 ?_
    refine V_iload_n hc dX5_put_23 2 rfl ?_
    refine V_iconst hc dX5_put_24 ?_
    refine V_iadd hc dX5_put_25 ?_
    refine V_iload_n hc dX5_put_26 0 rfl ?_
    refine V_iadd hc dX5_put_27 ?_
    refine V_iload_n hc dX5_put_28 3 rfl ?_
    refine V_iast hc 1 rfl (by decide) hv dX5_put_29 [oB hM 5 [.ref zA, .ref spA, .ref svA, .int (iI nsv), .ref soA, .ref ikA, .ref txA, .int (iI len), .int (iI thr), .int (iI nvi), .ref viA, .int (iI low), .int (iI high), .ref srA, .ref frA, .ref toA, .ref hoA, .ref keA, .int (iI nto), .int (iI spo), .int (iI mos)], aI t zA 646 (uI z (((x1 + 1) + (z x1.toNat)).toNat) x2), aI t spA 646 sp, aI t svA 3876 sv, aI t soA 1292 so, aZ t ikA 2 ik, aI t txA 60 tx, aI t viA 120 vi, aI t srA 120 sr, aI t frA 122 fr, aI t toA 122 to, aI t hoA 31 ho, aI t keA 31 ke] rfl (fun hv => ?_)
    refine V_aload_n hc dX5_put_30 1 rfl ?_
    refine V_get (C := RX5) (T := TX5) (N := 21) hc i_X5_put_5 0 rfl rfl 0 (by decide) m_X5_put_7 rfl dX5_put_31 ?_
    refine V_iload_n hc dX5_put_34 2 rfl ?_
    refine V_dup2 hc dX5_put_35 rfl rfl ?_
    refine V_iald hc 1 rfl (by decide) hv dX5_put_36 (fun hv => ?_)
    refine V_iconst hc dX5_put_37 ?_
    refine V_iadd hc dX5_put_38 ?_
    refine V_iast hc 1 rfl (by decide) hv dX5_put_39 [oB hM 5 [.ref zA, .ref spA, .ref svA, .int (iI nsv), .ref soA, .ref ikA, .ref txA, .int (iI len), .int (iI thr), .int (iI nvi), .ref viA, .int (iI low), .int (iI high), .ref srA, .ref frA, .ref toA, .ref hoA, .ref keA, .int (iI nto), .int (iI spo), .int (iI mos)], aI t zA 646 (uI (uI z (((x1 + 1) + (z x1.toNat)).toNat) x2) (x1.toNat) (((uI z (((x1 + 1) + (z x1.toNat)).toNat) x2) x1.toNat) + 1)), aI t spA 646 sp, aI t svA 3876 sv, aI t soA 1292 so, aZ t ikA 2 ik, aI t txA 60 tx, aI t viA 120 vi, aI t srA 120 sr, aI t frA 122 fr, aI t toA 122 to, aI t hoA 31 ho, aI t keA 31 ke] rfl (fun hv => ?_)
    refine V_lv [1, 2, 0] [(0, .ref hM), (1, .int (iI x1)), (3, .int (iI (z x1.toNat)))] rfl ?_
    exact C_40 (uI (uI z (((x1 + 1) + (z x1.toNat)).toNat) x2) (x1.toNat) (((uI z (((x1 + 1) + (z x1.toNat)).toNat) x2) x1.toNat) + 1)) x1 (z x1.toNat) hv
abbrev W1_X5_mark (t : Nat → ClassId) (hM : Nat) (zA : Nat) (spA : Nat) (svA : Nat) (soA : Nat) (ikA : Nat) (txA : Nat) (viA : Nat) (srA : Nat) (frA : Nat) (toA : Nat) (hoA : Nat) (keA : Nat) (nsv : Int) (len : Int) (thr : Int) (nvi : Int) (low : Int) (high : Int) (nto : Int) (spo : Int) (mos : Int) (sp : Nat → Int) (sv : Nat → Int) (so : Nat → Int) (ik : Nat → Int) (tx : Nat → Int) (vi : Nat → Int) (sr : Nat → Int) (fr : Nat → Int) (to : Nat → Int) (ho : Nat → Int) (ke : Nat → Int) (u : (Nat → Int)) : va_W := [oB hM 5 [.ref zA, .ref spA, .ref svA, .int (iI nsv), .ref soA, .ref ikA, .ref txA, .int (iI len), .int (iI thr), .int (iI nvi), .ref viA, .int (iI low), .int (iI high), .ref srA, .ref frA, .ref toA, .ref hoA, .ref keA, .int (iI nto), .int (iI spo), .int (iI mos)], aI t zA 646 u, aI t spA 646 sp, aI t svA 3876 sv, aI t soA 1292 so, aZ t ikA 2 ik, aI t txA 60 tx, aI t viA 120 vi, aI t srA 120 sr, aI t frA 122 fr, aI t toA 122 to, aI t hoA 31 ho, aI t keA 31 ke]
abbrev po_X5_mark (Q : (Nat → Int) → Prop) (u : (Nat → Int)) : Prop := Q u
abbrev rm_X5_mark : Room := { frames := 1, cells := 0, slots := 0, locals := 24 }
def wp_X5_mark (z : Nat → Int) (x1 : Int) (x2 : Int) (Q : (Nat → Int) → Prop) : Prop := wp_X5_placeOf z x1 x2 (fun r_1 => inR r_1 ∧ (r_1 = (-1) → Q z) ∧ (¬ (r_1 = (-1)) → (0 ≤ (x1 + 121) + r_1 ∧ (x1 + 121) + r_1 < 646) ∧ Q (uI z (((x1 + 121) + r_1).toNat) 1)))
theorem m_X5_mark_7 : Cond.fieldLink RX5 7 "BackgroundRebuildModel" "z" "[I" ∈ wsX5_mark := by decide +kernel
theorem i_X5_mark_5 : ∀ w ∈ u_ws RX5 TX5 21, w ∈ wsX5_mark := by decide +kernel
theorem ok_X5_mark : yX5_mark.cls = RX5 ∧ yX5_mark.cls ≠ "java/lang/invoke/MethodHandle" ∧ yX5_mark.cls ≠ "java/lang/invoke/VarHandle" ∧ (parseMethodDescriptor yX5_mark.desc).map (fun d => d.parameters.length) = some 2 := by decide +kernel
set_option maxHeartbeats 4000000 in
set_option maxRecDepth 100000 in
theorem met_X5_mark (l : Launch) (D : va_G) (t : Nat → ClassId) (hM : Nat) (zA : Nat) (spA : Nat) (svA : Nat) (soA : Nat) (ikA : Nat) (txA : Nat) (viA : Nat) (srA : Nat) (frA : Nat) (toA : Nat) (hoA : Nat) (keA : Nat) (nsv : Int) (len : Int) (thr : Int) (nvi : Int) (low : Int) (high : Int) (nto : Int) (spo : Int) (mos : Int) (z : Nat → Int) (sp : Nat → Int) (sv : Nat → Int) (so : Nat → Int) (ik : Nat → Int) (tx : Nat → Int) (vi : Nat → Int) (sr : Nat → Int) (fr : Nat → Int) (to : Nat → Int) (ho : Nat → Int) (ke : Nat → Int) (x1 : Int) (x2 : Int) (Q : (Nat → Int) → Prop) (hv : wp_X5_mark z x1 x2 Q) : MV l D t yX5_mark wsX5_mark rm_X5_mark [.ref hM, .int (iI x1), .int (iI x2)] [oB hM 5 [.ref zA, .ref spA, .ref svA, .int (iI nsv), .ref soA, .ref ikA, .ref txA, .int (iI len), .int (iI thr), .int (iI nvi), .ref viA, .int (iI low), .int (iI high), .ref srA, .ref frA, .ref toA, .ref hoA, .ref keA, .int (iI nto), .int (iI spo), .int (iI mos)], aI t zA 646 z, aI t spA 646 sp, aI t svA 3876 sv, aI t soA 1292 so, aZ t ikA 2 ik, aI t txA 60 tx, aI t viA 120 vi, aI t srA 120 sr, aI t frA 122 fr, aI t toA 122 to, aI t hoA 31 ho, aI t keA 31 ke] (W1_X5_mark t hM zA spA svA soA ikA txA viA srA frA toA hoA keA nsv len thr nvi low high nto spo mos sp sv so ik tx vi sr fr to ho ke) (po_X5_mark Q) 0 0 := by
  refine M_ofv (cc := cX5_mark) (nL := 4) (by decide) rfl (Nat.le_of_ble_eq_true rfl) ?_
  intro p e s m args below meth c A hc hr
  refine V_lv [0, 1, 2] [(0, .ref hM), (1, .int (iI x1)), (2, .int (iI x2))] rfl ?_
  unfold wp_X5_mark at hv
  refine V_aload_n hc dX5_mark_0 0 rfl ?_
  refine V_iload_n hc dX5_mark_1 1 rfl ?_
  refine V_iload_n hc dX5_mark_2 2 rfl ?_
  refine V_callVI (As := [.int (iI x1), .int (iI x2)]) hc (wc := [oB hM 5 [.ref zA, .ref spA, .ref svA, .int (iI nsv), .ref soA, .ref ikA, .ref txA, .int (iI len), .int (iI thr), .int (iI nvi), .ref viA, .int (iI low), .int (iI high), .ref srA, .ref frA, .ref toA, .ref hoA, .ref keA, .int (iI nto), .int (iI spo), .int (iI mos)], aI t zA 646 z, aI t spA 646 sp, aI t svA 3876 sv, aI t soA 1292 so, aZ t ikA 2 ik, aI t txA 60 tx, aI t viA 120 vi, aI t srA 120 sr, aI t frA 122 fr, aI t toA 122 to, aI t hoA 31 ho, aI t keA 31 ke]) (wr := []) (pmI (ws := [oB hM 5 [.ref zA, .ref spA, .ref svA, .int (iI nsv), .ref soA, .ref ikA, .ref txA, .int (iI len), .int (iI thr), .int (iI nvi), .ref viA, .int (iI low), .int (iI high), .ref srA, .ref frA, .ref toA, .ref hoA, .ref keA, .int (iI nto), .int (iI spo), .int (iI mos)], aI t zA 646 z, aI t spA 646 sp, aI t svA 3876 sv, aI t soA 1292 so, aZ t ikA 2 ik, aI t txA 60 tx, aI t viA 120 vi, aI t srA 120 sr, aI t frA 122 fr, aI t toA 122 to, aI t hoA 31 ho, aI t keA 31 ke]) (ws1 := [oB hM 5 [.ref zA, .ref spA, .ref svA, .int (iI nsv), .ref soA, .ref ikA, .ref txA, .int (iI len), .int (iI thr), .int (iI nvi), .ref viA, .int (iI low), .int (iI high), .ref srA, .ref frA, .ref toA, .ref hoA, .ref keA, .int (iI nto), .int (iI spo), .int (iI mos)], aI t zA 646 z, aI t spA 646 sp, aI t svA 3876 sv, aI t soA 1292 so, aZ t ikA 2 ik, aI t txA 60 tx, aI t viA 120 vi, aI t srA 120 sr, aI t frA 122 fr, aI t toA 122 to, aI t hoA 31 ho, aI t keA 31 ke] ++ []) [0, 1, 2, 3, 4, 5, 6, 7, 8, 9, 10, 11, 12] 13 rfl (by decide +kernel) rfl) rfl rfl (met_X5_placeOf l D t hM zA spA svA soA ikA txA viA srA frA toA hoA keA nsv len thr nvi low high nto spo mos z sp sv so ik tx vi sr fr to ho ke x1 x2 _ hv) rfl gX5_mark_X5_placeOf rfl ⟨rfl, rfl⟩ ok_X5_placeOf (by decide) (Nat.le_of_ble_eq_true rfl) dX5_mark_3 (by decide) (fun r_1 _ hv => ?_)
  try dsimp only at hv
  refine V_perm (ws1 := [oB hM 5 [.ref zA, .ref spA, .ref svA, .int (iI nsv), .ref soA, .ref ikA, .ref txA, .int (iI len), .int (iI thr), .int (iI nvi), .ref viA, .int (iI low), .int (iI high), .ref srA, .ref frA, .ref toA, .ref hoA, .ref keA, .int (iI nto), .int (iI spo), .int (iI mos)], aI t zA 646 z, aI t spA 646 sp, aI t svA 3876 sv, aI t soA 1292 so, aZ t ikA 2 ik, aI t txA 60 tx, aI t viA 120 vi, aI t srA 120 sr, aI t frA 122 fr, aI t toA 122 to, aI t hoA 31 ho, aI t keA 31 ke]) (pmI (ws := [oB hM 5 [.ref zA, .ref spA, .ref svA, .int (iI nsv), .ref soA, .ref ikA, .ref txA, .int (iI len), .int (iI thr), .int (iI nvi), .ref viA, .int (iI low), .int (iI high), .ref srA, .ref frA, .ref toA, .ref hoA, .ref keA, .int (iI nto), .int (iI spo), .int (iI mos)], aI t zA 646 z, aI t spA 646 sp, aI t svA 3876 sv, aI t soA 1292 so, aZ t ikA 2 ik, aI t txA 60 tx, aI t viA 120 vi, aI t srA 120 sr, aI t frA 122 fr, aI t toA 122 to, aI t hoA 31 ho, aI t keA 31 ke] ++ []) (ws1 := [oB hM 5 [.ref zA, .ref spA, .ref svA, .int (iI nsv), .ref soA, .ref ikA, .ref txA, .int (iI len), .int (iI thr), .int (iI nvi), .ref viA, .int (iI low), .int (iI high), .ref srA, .ref frA, .ref toA, .ref hoA, .ref keA, .int (iI nto), .int (iI spo), .int (iI mos)], aI t zA 646 z, aI t spA 646 sp, aI t svA 3876 sv, aI t soA 1292 so, aZ t ikA 2 ik, aI t txA 60 tx, aI t viA 120 vi, aI t srA 120 sr, aI t frA 122 fr, aI t toA 122 to, aI t hoA 31 ho, aI t keA 31 ke]) [0, 1, 2, 3, 4, 5, 6, 7, 8, 9, 10, 11, 12] 13 rfl (by decide +kernel) rfl) ?_
  refine V_istore_n hc dX5_mark_6 [(3, .int (iI r_1)), (0, .ref hM), (1, .int (iI x1)), (2, .int (iI x2))] (by decide) rfl ?_
  refine V_iload_n hc dX5_mark_7 0 rfl ?_
  refine V_iconst hc dX5_mark_8 ?_
  refine V_icmp_eq (tgt := 24) hc dX5_mark_9 (by decide) ⟨hv.1, by decide, hv.2⟩ (fun hv => ?_) (fun hv => ?_)
  · exact V_vret hc hr z hv rfl dX5_mark_24
  · refine V_aload_n hc dX5_mark_12 1 rfl ?_
    refine V_get (C := RX5) (T := TX5) (N := 21) hc i_X5_mark_5 0 rfl rfl 0 (by decide) m_X5_mark_7 rfl dX5_mark_13 ?_
    refine V_iload_n hc dX5_mark_16 2 rfl ?_
    refine V_bipush hc dX5_mark_17 (by decide) ?_
    refine V_iadd hc dX5_mark_19 ?_
    refine V_iload_n hc dX5_mark_20 0 rfl ?_
    refine V_iadd hc dX5_mark_21 ?_
    refine V_iconst hc dX5_mark_22 ?_
    refine V_iast hc 1 rfl (by decide) hv dX5_mark_23 [oB hM 5 [.ref zA, .ref spA, .ref svA, .int (iI nsv), .ref soA, .ref ikA, .ref txA, .int (iI len), .int (iI thr), .int (iI nvi), .ref viA, .int (iI low), .int (iI high), .ref srA, .ref frA, .ref toA, .ref hoA, .ref keA, .int (iI nto), .int (iI spo), .int (iI mos)], aI t zA 646 (uI z (((x1 + 121) + r_1).toNat) 1), aI t spA 646 sp, aI t svA 3876 sv, aI t soA 1292 so, aZ t ikA 2 ik, aI t txA 60 tx, aI t viA 120 vi, aI t srA 120 sr, aI t frA 122 fr, aI t toA 122 to, aI t hoA 31 ho, aI t keA 31 ke] rfl (fun hv => ?_)
    exact V_vret hc hr (uI z (((x1 + 121) + r_1).toNat) 1) hv rfl dX5_mark_24
abbrev W1_X5_markedIn (t : Nat → ClassId) (hM : Nat) (zA : Nat) (spA : Nat) (svA : Nat) (soA : Nat) (ikA : Nat) (txA : Nat) (viA : Nat) (srA : Nat) (frA : Nat) (toA : Nat) (hoA : Nat) (keA : Nat) (nsv : Int) (len : Int) (thr : Int) (nvi : Int) (low : Int) (high : Int) (nto : Int) (spo : Int) (mos : Int) (z : Nat → Int) (sp : Nat → Int) (sv : Nat → Int) (so : Nat → Int) (ik : Nat → Int) (tx : Nat → Int) (vi : Nat → Int) (sr : Nat → Int) (fr : Nat → Int) (to : Nat → Int) (ho : Nat → Int) (ke : Nat → Int) (u : Unit) : va_W := [oB hM 5 [.ref zA, .ref spA, .ref svA, .int (iI nsv), .ref soA, .ref ikA, .ref txA, .int (iI len), .int (iI thr), .int (iI nvi), .ref viA, .int (iI low), .int (iI high), .ref srA, .ref frA, .ref toA, .ref hoA, .ref keA, .int (iI nto), .int (iI spo), .int (iI mos)], aI t zA 646 z, aI t spA 646 sp, aI t svA 3876 sv, aI t soA 1292 so, aZ t ikA 2 ik, aI t txA 60 tx, aI t viA 120 vi, aI t srA 120 sr, aI t frA 122 fr, aI t toA 122 to, aI t hoA 31 ho, aI t keA 31 ke]
abbrev po_X5_markedIn (Q : Int → Prop) (r : Int) (u : Unit) : Prop := Q r
abbrev rm_X5_markedIn : Room := { frames := 0, cells := 0, slots := 0, locals := 0 }
def wp_X5_markedIn_4 (z : Nat → Int) (x1 : Int) (Q : Int → Prop) (K_4 : Int → Int → Prop) (x2 : Int) (x3 : Int) : Prop := (0 ≤ x1 ∧ x1 < 646) ∧ inR x3 ∧ inR (z x1.toNat) ∧ (x3 ≥ z x1.toNat → Q x2) ∧ (¬ (x3 ≥ z x1.toNat) → (0 ≤ (x1 + 121) + x3 ∧ (x1 + 121) + x3 < 646) ∧ K_4 (x2 + (z ((x1 + 121) + x3).toNat)) (x3 + 1))
def wp_X5_markedIn (z : Nat → Int) (x1 : Int) (Q : Int → Prop) : Prop := (∃ n, lq2 (wp_X5_markedIn_4 z x1 Q) n 0 0)
theorem m_X5_markedIn_7 : Cond.fieldLink RX5 7 "BackgroundRebuildModel" "z" "[I" ∈ wsX5_markedIn := by decide +kernel
theorem i_X5_markedIn_5 : ∀ w ∈ u_ws RX5 TX5 21, w ∈ wsX5_markedIn := by decide +kernel
theorem ok_X5_markedIn : yX5_markedIn.cls = RX5 ∧ yX5_markedIn.cls ≠ "java/lang/invoke/MethodHandle" ∧ yX5_markedIn.cls ≠ "java/lang/invoke/VarHandle" ∧ (parseMethodDescriptor yX5_markedIn.desc).map (fun d => d.parameters.length) = some 1 := by decide +kernel
set_option maxHeartbeats 4000000 in
set_option maxRecDepth 100000 in
theorem met_X5_markedIn (l : Launch) (D : va_G) (t : Nat → ClassId) (hM : Nat) (zA : Nat) (spA : Nat) (svA : Nat) (soA : Nat) (ikA : Nat) (txA : Nat) (viA : Nat) (srA : Nat) (frA : Nat) (toA : Nat) (hoA : Nat) (keA : Nat) (nsv : Int) (len : Int) (thr : Int) (nvi : Int) (low : Int) (high : Int) (nto : Int) (spo : Int) (mos : Int) (z : Nat → Int) (sp : Nat → Int) (sv : Nat → Int) (so : Nat → Int) (ik : Nat → Int) (tx : Nat → Int) (vi : Nat → Int) (sr : Nat → Int) (fr : Nat → Int) (to : Nat → Int) (ho : Nat → Int) (ke : Nat → Int) (x1 : Int) (Q : Int → Prop) (hv : wp_X5_markedIn z x1 Q) : MI l D t yX5_markedIn wsX5_markedIn rm_X5_markedIn [.ref hM, .int (iI x1)] [oB hM 5 [.ref zA, .ref spA, .ref svA, .int (iI nsv), .ref soA, .ref ikA, .ref txA, .int (iI len), .int (iI thr), .int (iI nvi), .ref viA, .int (iI low), .int (iI high), .ref srA, .ref frA, .ref toA, .ref hoA, .ref keA, .int (iI nto), .int (iI spo), .int (iI mos)], aI t zA 646 z, aI t spA 646 sp, aI t svA 3876 sv, aI t soA 1292 so, aZ t ikA 2 ik, aI t txA 60 tx, aI t viA 120 vi, aI t srA 120 sr, aI t frA 122 fr, aI t toA 122 to, aI t hoA 31 ho, aI t keA 31 ke] (W1_X5_markedIn t hM zA spA svA soA ikA txA viA srA frA toA hoA keA nsv len thr nvi low high nto spo mos z sp sv so ik tx vi sr fr to ho ke) (po_X5_markedIn Q) 0 0 := by
  refine M_ofi (cc := cX5_markedIn) (nL := 4) (by decide) rfl (Nat.le_of_ble_eq_true rfl) ?_
  intro p e s m args below meth c A hc hr
  have L_4 : ∀ (z : Nat → Int) (x1 : Int) (n9 : Nat) (x2 : Int) (x3 : Int), lq2 (wp_X5_markedIn_4 z x1 Q) n9 x2 x3 → V p l e rm_X5_markedIn s m args below meth c D A 4 0 0 (MQ below (QI D A (W1_X5_markedIn t hM zA spA svA soA ikA txA viA srA frA toA hoA keA nsv len thr nvi low high nto spo mos z sp sv so ik tx vi sr fr to ho ke) (po_X5_markedIn Q)) args s 0 0 A) 4 [(0, .ref hM), (1, .int (iI x1)), (2, .int (iI x2)), (3, .int (iI x3))] [] [oB hM 5 [.ref zA, .ref spA, .ref svA, .int (iI nsv), .ref soA, .ref ikA, .ref txA, .int (iI len), .int (iI thr), .int (iI nvi), .ref viA, .int (iI low), .int (iI high), .ref srA, .ref frA, .ref toA, .ref hoA, .ref keA, .int (iI nto), .int (iI spo), .int (iI mos)], aI t zA 646 z, aI t spA 646 sp, aI t svA 3876 sv, aI t soA 1292 so, aZ t ikA 2 ik, aI t txA 60 tx, aI t viA 120 vi, aI t srA 120 sr, aI t frA 122 fr, aI t toA 122 to, aI t hoA 31 ho, aI t keA 31 ke] := by
    intro z x1 n9
    induction n9 with
    | zero =>
      intro x2 x3 hv
      exact hv.elim
    | succ n9 ih =>
      intro x2 x3 hv
      have hv : wp_X5_markedIn_4 z x1 Q (lq2 (wp_X5_markedIn_4 z x1 Q) n9) x2 x3 := hv
      generalize lq2 (wp_X5_markedIn_4 z x1 Q) n9 = K_4 at hv ih
      have hK_4 := ih
      unfold wp_X5_markedIn_4 at hv
      refine V_iload_n hc dX5_markedIn_4 3 rfl ?_
      refine V_aload_n hc dX5_markedIn_5 0 rfl ?_
      refine V_get (C := RX5) (T := TX5) (N := 21) hc i_X5_markedIn_5 0 rfl rfl 0 (by decide) m_X5_markedIn_7 rfl dX5_markedIn_6 ?_
      refine V_iload_n hc dX5_markedIn_9 1 rfl ?_
      refine V_iald hc 1 rfl (by decide) hv dX5_markedIn_10 (fun hv => ?_)
      refine V_icmp_ge (tgt := 34) hc dX5_markedIn_11 (by decide) hv (fun hv => ?_) (fun hv => ?_)
      · refine V_iload_n hc dX5_markedIn_34 2 rfl ?_
        exact V_iret hc hr () hv rfl dX5_markedIn_35
      · refine V_iload_n hc dX5_markedIn_14 2 rfl ?_
        refine V_aload_n hc dX5_markedIn_15 0 rfl ?_
        refine V_get (C := RX5) (T := TX5) (N := 21) hc i_X5_markedIn_5 0 rfl rfl 0 (by decide) m_X5_markedIn_7 rfl dX5_markedIn_16 ?_
        refine V_iload_n hc dX5_markedIn_19 1 rfl ?_
        refine V_bipush hc dX5_markedIn_20 (by decide) ?_
        refine V_iadd hc dX5_markedIn_22 ?_
        refine V_iload_n hc dX5_markedIn_23 3 rfl ?_
        refine V_iadd hc dX5_markedIn_24 ?_
        refine V_iald hc 1 rfl (by decide) hv dX5_markedIn_25 (fun hv => ?_)
        refine V_iadd hc dX5_markedIn_26 ?_
        refine V_istore_n hc dX5_markedIn_27 [(2, .int (iI (x2 + (z ((x1 + 121) + x3).toNat)))), (0, .ref hM), (1, .int (iI x1)), (3, .int (iI x3))] (by decide) rfl ?_
        refine V_iinc hc dX5_markedIn_28 3 rfl [(3, .int (iI (x3 + 1))), (2, .int (iI (x2 + (z ((x1 + 121) + x3).toNat)))), (0, .ref hM), (1, .int (iI x1))] (by decide) rfl ?_
        refine V_goto (tgt := 4) hc dX5_markedIn_31 (by decide) ?_
        refine V_lv [2, 3, 1, 0] [(0, .ref hM), (1, .int (iI x1)), (2, .int (iI (x2 + (z ((x1 + 121) + x3).toNat)))), (3, .int (iI (x3 + 1)))] rfl ?_
        exact hK_4 (x2 + (z ((x1 + 121) + x3).toNat)) (x3 + 1) hv
  refine V_lv [0, 1] [(0, .ref hM), (1, .int (iI x1))] rfl ?_
  unfold wp_X5_markedIn at hv
  refine V_iconst hc dX5_markedIn_0 ?_
  refine V_istore_n hc dX5_markedIn_1 [(2, .int (iI 0)), (0, .ref hM), (1, .int (iI x1))] (by decide) rfl ?_
  refine V_iconst hc dX5_markedIn_2 ?_
  refine V_istore_n hc dX5_markedIn_3 [(3, .int (iI 0)), (2, .int (iI 0)), (0, .ref hM), (1, .int (iI x1))] (by decide) rfl ?_
  refine V_lv [2, 3, 1, 0] [(0, .ref hM), (1, .int (iI x1)), (2, .int (iI 0)), (3, .int (iI 0))] rfl ?_
  obtain ⟨n9, hv⟩ := hv
  exact L_4 z x1 n9 0 0 hv
abbrev W1_X5_presentIn (t : Nat → ClassId) (hM : Nat) (zA : Nat) (spA : Nat) (svA : Nat) (soA : Nat) (ikA : Nat) (txA : Nat) (viA : Nat) (srA : Nat) (frA : Nat) (toA : Nat) (hoA : Nat) (keA : Nat) (nsv : Int) (len : Int) (thr : Int) (nvi : Int) (low : Int) (high : Int) (nto : Int) (spo : Int) (mos : Int) (z : Nat → Int) (sp : Nat → Int) (sv : Nat → Int) (so : Nat → Int) (ik : Nat → Int) (tx : Nat → Int) (vi : Nat → Int) (sr : Nat → Int) (fr : Nat → Int) (to : Nat → Int) (ho : Nat → Int) (ke : Nat → Int) (u : Unit) : va_W := [oB hM 5 [.ref zA, .ref spA, .ref svA, .int (iI nsv), .ref soA, .ref ikA, .ref txA, .int (iI len), .int (iI thr), .int (iI nvi), .ref viA, .int (iI low), .int (iI high), .ref srA, .ref frA, .ref toA, .ref hoA, .ref keA, .int (iI nto), .int (iI spo), .int (iI mos)], aI t zA 646 z, aI t spA 646 sp, aI t svA 3876 sv, aI t soA 1292 so, aZ t ikA 2 ik, aI t txA 60 tx, aI t viA 120 vi, aI t srA 120 sr, aI t frA 122 fr, aI t toA 122 to, aI t hoA 31 ho, aI t keA 31 ke]
abbrev po_X5_presentIn (Q : Int → Prop) (r : Int) (u : Unit) : Prop := Q r
abbrev rm_X5_presentIn : Room := { frames := 1, cells := 0, slots := 0, locals := 23 }
def wp_X5_presentIn (z : Nat → Int) (x1 : Int) (Q : Int → Prop) : Prop := (0 ≤ x1 ∧ x1 < 646) ∧ wp_X5_markedIn z x1 (fun r_1 => Q ((z x1.toNat) - r_1))
theorem m_X5_presentIn_7 : Cond.fieldLink RX5 7 "BackgroundRebuildModel" "z" "[I" ∈ wsX5_presentIn := by decide +kernel
theorem i_X5_presentIn_5 : ∀ w ∈ u_ws RX5 TX5 21, w ∈ wsX5_presentIn := by decide +kernel
theorem ok_X5_presentIn : yX5_presentIn.cls = RX5 ∧ yX5_presentIn.cls ≠ "java/lang/invoke/MethodHandle" ∧ yX5_presentIn.cls ≠ "java/lang/invoke/VarHandle" ∧ (parseMethodDescriptor yX5_presentIn.desc).map (fun d => d.parameters.length) = some 1 := by decide +kernel
set_option maxHeartbeats 4000000 in
set_option maxRecDepth 100000 in
theorem met_X5_presentIn (l : Launch) (D : va_G) (t : Nat → ClassId) (hM : Nat) (zA : Nat) (spA : Nat) (svA : Nat) (soA : Nat) (ikA : Nat) (txA : Nat) (viA : Nat) (srA : Nat) (frA : Nat) (toA : Nat) (hoA : Nat) (keA : Nat) (nsv : Int) (len : Int) (thr : Int) (nvi : Int) (low : Int) (high : Int) (nto : Int) (spo : Int) (mos : Int) (z : Nat → Int) (sp : Nat → Int) (sv : Nat → Int) (so : Nat → Int) (ik : Nat → Int) (tx : Nat → Int) (vi : Nat → Int) (sr : Nat → Int) (fr : Nat → Int) (to : Nat → Int) (ho : Nat → Int) (ke : Nat → Int) (x1 : Int) (Q : Int → Prop) (hv : wp_X5_presentIn z x1 Q) : MI l D t yX5_presentIn wsX5_presentIn rm_X5_presentIn [.ref hM, .int (iI x1)] [oB hM 5 [.ref zA, .ref spA, .ref svA, .int (iI nsv), .ref soA, .ref ikA, .ref txA, .int (iI len), .int (iI thr), .int (iI nvi), .ref viA, .int (iI low), .int (iI high), .ref srA, .ref frA, .ref toA, .ref hoA, .ref keA, .int (iI nto), .int (iI spo), .int (iI mos)], aI t zA 646 z, aI t spA 646 sp, aI t svA 3876 sv, aI t soA 1292 so, aZ t ikA 2 ik, aI t txA 60 tx, aI t viA 120 vi, aI t srA 120 sr, aI t frA 122 fr, aI t toA 122 to, aI t hoA 31 ho, aI t keA 31 ke] (W1_X5_presentIn t hM zA spA svA soA ikA txA viA srA frA toA hoA keA nsv len thr nvi low high nto spo mos z sp sv so ik tx vi sr fr to ho ke) (po_X5_presentIn Q) 0 0 := by
  refine M_ofi (cc := cX5_presentIn) (nL := 2) (by decide) rfl (Nat.le_of_ble_eq_true rfl) ?_
  intro p e s m args below meth c A hc hr
  refine V_lv [0, 1] [(0, .ref hM), (1, .int (iI x1))] rfl ?_
  unfold wp_X5_presentIn at hv
  refine V_aload_n hc dX5_presentIn_0 0 rfl ?_
  refine V_get (C := RX5) (T := TX5) (N := 21) hc i_X5_presentIn_5 0 rfl rfl 0 (by decide) m_X5_presentIn_7 rfl dX5_presentIn_1 ?_
  refine V_iload_n hc dX5_presentIn_4 1 rfl ?_
  refine V_iald hc 1 rfl (by decide) hv dX5_presentIn_5 (fun hv => ?_)
  refine V_aload_n hc dX5_presentIn_6 0 rfl ?_
  refine V_iload_n hc dX5_presentIn_7 1 rfl ?_
  refine V_callVI (As := [.int (iI x1)]) hc (wc := [oB hM 5 [.ref zA, .ref spA, .ref svA, .int (iI nsv), .ref soA, .ref ikA, .ref txA, .int (iI len), .int (iI thr), .int (iI nvi), .ref viA, .int (iI low), .int (iI high), .ref srA, .ref frA, .ref toA, .ref hoA, .ref keA, .int (iI nto), .int (iI spo), .int (iI mos)], aI t zA 646 z, aI t spA 646 sp, aI t svA 3876 sv, aI t soA 1292 so, aZ t ikA 2 ik, aI t txA 60 tx, aI t viA 120 vi, aI t srA 120 sr, aI t frA 122 fr, aI t toA 122 to, aI t hoA 31 ho, aI t keA 31 ke]) (wr := []) (pmI (ws := [oB hM 5 [.ref zA, .ref spA, .ref svA, .int (iI nsv), .ref soA, .ref ikA, .ref txA, .int (iI len), .int (iI thr), .int (iI nvi), .ref viA, .int (iI low), .int (iI high), .ref srA, .ref frA, .ref toA, .ref hoA, .ref keA, .int (iI nto), .int (iI spo), .int (iI mos)], aI t zA 646 z, aI t spA 646 sp, aI t svA 3876 sv, aI t soA 1292 so, aZ t ikA 2 ik, aI t txA 60 tx, aI t viA 120 vi, aI t srA 120 sr, aI t frA 122 fr, aI t toA 122 to, aI t hoA 31 ho, aI t keA 31 ke]) (ws1 := [oB hM 5 [.ref zA, .ref spA, .ref svA, .int (iI nsv), .ref soA, .ref ikA, .ref txA, .int (iI len), .int (iI thr), .int (iI nvi), .ref viA, .int (iI low), .int (iI high), .ref srA, .ref frA, .ref toA, .ref hoA, .ref keA, .int (iI nto), .int (iI spo), .int (iI mos)], aI t zA 646 z, aI t spA 646 sp, aI t svA 3876 sv, aI t soA 1292 so, aZ t ikA 2 ik, aI t txA 60 tx, aI t viA 120 vi, aI t srA 120 sr, aI t frA 122 fr, aI t toA 122 to, aI t hoA 31 ho, aI t keA 31 ke] ++ []) [0, 1, 2, 3, 4, 5, 6, 7, 8, 9, 10, 11, 12] 13 rfl (by decide +kernel) rfl) rfl rfl (met_X5_markedIn l D t hM zA spA svA soA ikA txA viA srA frA toA hoA keA nsv len thr nvi low high nto spo mos z sp sv so ik tx vi sr fr to ho ke x1 _ hv) rfl gX5_presentIn_X5_markedIn rfl ⟨rfl, rfl⟩ ok_X5_markedIn (by decide) (Nat.le_of_ble_eq_true rfl) dX5_presentIn_8 (by decide) (fun r_1 _ hv => ?_)
  try dsimp only at hv
  refine V_perm (ws1 := [oB hM 5 [.ref zA, .ref spA, .ref svA, .int (iI nsv), .ref soA, .ref ikA, .ref txA, .int (iI len), .int (iI thr), .int (iI nvi), .ref viA, .int (iI low), .int (iI high), .ref srA, .ref frA, .ref toA, .ref hoA, .ref keA, .int (iI nto), .int (iI spo), .int (iI mos)], aI t zA 646 z, aI t spA 646 sp, aI t svA 3876 sv, aI t soA 1292 so, aZ t ikA 2 ik, aI t txA 60 tx, aI t viA 120 vi, aI t srA 120 sr, aI t frA 122 fr, aI t toA 122 to, aI t hoA 31 ho, aI t keA 31 ke]) (pmI (ws := [oB hM 5 [.ref zA, .ref spA, .ref svA, .int (iI nsv), .ref soA, .ref ikA, .ref txA, .int (iI len), .int (iI thr), .int (iI nvi), .ref viA, .int (iI low), .int (iI high), .ref srA, .ref frA, .ref toA, .ref hoA, .ref keA, .int (iI nto), .int (iI spo), .int (iI mos)], aI t zA 646 z, aI t spA 646 sp, aI t svA 3876 sv, aI t soA 1292 so, aZ t ikA 2 ik, aI t txA 60 tx, aI t viA 120 vi, aI t srA 120 sr, aI t frA 122 fr, aI t toA 122 to, aI t hoA 31 ho, aI t keA 31 ke] ++ []) (ws1 := [oB hM 5 [.ref zA, .ref spA, .ref svA, .int (iI nsv), .ref soA, .ref ikA, .ref txA, .int (iI len), .int (iI thr), .int (iI nvi), .ref viA, .int (iI low), .int (iI high), .ref srA, .ref frA, .ref toA, .ref hoA, .ref keA, .int (iI nto), .int (iI spo), .int (iI mos)], aI t zA 646 z, aI t spA 646 sp, aI t svA 3876 sv, aI t soA 1292 so, aZ t ikA 2 ik, aI t txA 60 tx, aI t viA 120 vi, aI t srA 120 sr, aI t frA 122 fr, aI t toA 122 to, aI t hoA 31 ho, aI t keA 31 ke]) [0, 1, 2, 3, 4, 5, 6, 7, 8, 9, 10, 11, 12] 13 rfl (by decide +kernel) rfl) ?_
  refine V_isub hc dX5_presentIn_11 ?_
  exact V_iret hc hr () hv rfl dX5_presentIn_12
abbrev W1_X5_depthOf (t : Nat → ClassId) (hM : Nat) (zA : Nat) (spA : Nat) (svA : Nat) (soA : Nat) (ikA : Nat) (txA : Nat) (viA : Nat) (srA : Nat) (frA : Nat) (toA : Nat) (hoA : Nat) (keA : Nat) (nsv : Int) (len : Int) (thr : Int) (nto : Int) (spo : Int) (mos : Int) (z : Nat → Int) (sp : Nat → Int) (sv : Nat → Int) (so : Nat → Int) (ik : Nat → Int) (tx : Nat → Int) (sr : Nat → Int) (fr : Nat → Int) (to : Nat → Int) (ho : Nat → Int) (ke : Nat → Int) (u : (Int) × (Int) × (Int) × (Nat → Int)) : va_W := [oB hM 5 [.ref zA, .ref spA, .ref svA, .int (iI nsv), .ref soA, .ref ikA, .ref txA, .int (iI len), .int (iI thr), .int (iI u.1), .ref viA, .int (iI u.2.1), .int (iI u.2.2.1), .ref srA, .ref frA, .ref toA, .ref hoA, .ref keA, .int (iI nto), .int (iI spo), .int (iI mos)], aI t zA 646 z, aI t spA 646 sp, aI t svA 3876 sv, aI t soA 1292 so, aZ t ikA 2 ik, aI t txA 60 tx, aI t viA 120 u.2.2.2, aI t srA 120 sr, aI t frA 122 fr, aI t toA 122 to, aI t hoA 31 ho, aI t keA 31 ke]
abbrev po_X5_depthOf (Q : Int → (Int) → (Int) → (Int) → (Nat → Int) → Prop) (r : Int) (u : (Int) × (Int) × (Int) × (Nat → Int)) : Prop := Q r u.1 u.2.1 u.2.2.1 u.2.2.2
abbrev rm_X5_depthOf : Room := { frames := 1, cells := 0, slots := 0, locals := 25 }
def wp_X5_depthOf (nvi : Int) (low : Int) (high : Int) (z : Nat → Int) (vi : Nat → Int) (x1 : Int) (x2 : Int) (Q : Int → (Int) → (Int) → (Int) → (Nat → Int) → Prop) : Prop := wp_X5_seek nvi low high z vi x1 x2 (fun nvi_1 low_1 high_1 vi_1 => Q nvi_1 nvi_1 low_1 high_1 vi_1)
theorem m_X5_depthOf_66 : Cond.fieldLink RX5 66 "BackgroundRebuildModel" "visitedMany" "I" ∈ wsX5_depthOf := by decide +kernel
theorem i_X5_depthOf_5 : ∀ w ∈ u_ws RX5 TX5 21, w ∈ wsX5_depthOf := by decide +kernel
theorem ok_X5_depthOf : yX5_depthOf.cls = RX5 ∧ yX5_depthOf.cls ≠ "java/lang/invoke/MethodHandle" ∧ yX5_depthOf.cls ≠ "java/lang/invoke/VarHandle" ∧ (parseMethodDescriptor yX5_depthOf.desc).map (fun d => d.parameters.length) = some 2 := by decide +kernel
set_option maxHeartbeats 4000000 in
set_option maxRecDepth 100000 in
theorem met_X5_depthOf (l : Launch) (D : va_G) (t : Nat → ClassId) (hM : Nat) (zA : Nat) (spA : Nat) (svA : Nat) (soA : Nat) (ikA : Nat) (txA : Nat) (viA : Nat) (srA : Nat) (frA : Nat) (toA : Nat) (hoA : Nat) (keA : Nat) (nsv : Int) (len : Int) (thr : Int) (nvi : Int) (low : Int) (high : Int) (nto : Int) (spo : Int) (mos : Int) (z : Nat → Int) (sp : Nat → Int) (sv : Nat → Int) (so : Nat → Int) (ik : Nat → Int) (tx : Nat → Int) (vi : Nat → Int) (sr : Nat → Int) (fr : Nat → Int) (to : Nat → Int) (ho : Nat → Int) (ke : Nat → Int) (x1 : Int) (x2 : Int) (Q : Int → (Int) → (Int) → (Int) → (Nat → Int) → Prop) (hv : wp_X5_depthOf nvi low high z vi x1 x2 Q) : MI l D t yX5_depthOf wsX5_depthOf rm_X5_depthOf [.ref hM, .int (iI x1), .int (iI x2)] [oB hM 5 [.ref zA, .ref spA, .ref svA, .int (iI nsv), .ref soA, .ref ikA, .ref txA, .int (iI len), .int (iI thr), .int (iI nvi), .ref viA, .int (iI low), .int (iI high), .ref srA, .ref frA, .ref toA, .ref hoA, .ref keA, .int (iI nto), .int (iI spo), .int (iI mos)], aI t zA 646 z, aI t spA 646 sp, aI t svA 3876 sv, aI t soA 1292 so, aZ t ikA 2 ik, aI t txA 60 tx, aI t viA 120 vi, aI t srA 120 sr, aI t frA 122 fr, aI t toA 122 to, aI t hoA 31 ho, aI t keA 31 ke] (W1_X5_depthOf t hM zA spA svA soA ikA txA viA srA frA toA hoA keA nsv len thr nto spo mos z sp sv so ik tx sr fr to ho ke) (po_X5_depthOf Q) 0 0 := by
  refine M_ofi (cc := cX5_depthOf) (nL := 3) (by decide) rfl (Nat.le_of_ble_eq_true rfl) ?_
  intro p e s m args below meth c A hc hr
  refine V_lv [0, 1, 2] [(0, .ref hM), (1, .int (iI x1)), (2, .int (iI x2))] rfl ?_
  unfold wp_X5_depthOf at hv
  refine V_aload_n hc dX5_depthOf_0 0 rfl ?_
  refine V_iload_n hc dX5_depthOf_1 1 rfl ?_
  refine V_iload_n hc dX5_depthOf_2 2 rfl ?_
  refine V_callVV (As := [.int (iI x1), .int (iI x2)]) hc (wc := [oB hM 5 [.ref zA, .ref spA, .ref svA, .int (iI nsv), .ref soA, .ref ikA, .ref txA, .int (iI len), .int (iI thr), .int (iI nvi), .ref viA, .int (iI low), .int (iI high), .ref srA, .ref frA, .ref toA, .ref hoA, .ref keA, .int (iI nto), .int (iI spo), .int (iI mos)], aI t zA 646 z, aI t spA 646 sp, aI t svA 3876 sv, aI t soA 1292 so, aZ t ikA 2 ik, aI t txA 60 tx, aI t viA 120 vi, aI t srA 120 sr, aI t frA 122 fr, aI t toA 122 to, aI t hoA 31 ho, aI t keA 31 ke]) (wr := []) (pmI (ws := [oB hM 5 [.ref zA, .ref spA, .ref svA, .int (iI nsv), .ref soA, .ref ikA, .ref txA, .int (iI len), .int (iI thr), .int (iI nvi), .ref viA, .int (iI low), .int (iI high), .ref srA, .ref frA, .ref toA, .ref hoA, .ref keA, .int (iI nto), .int (iI spo), .int (iI mos)], aI t zA 646 z, aI t spA 646 sp, aI t svA 3876 sv, aI t soA 1292 so, aZ t ikA 2 ik, aI t txA 60 tx, aI t viA 120 vi, aI t srA 120 sr, aI t frA 122 fr, aI t toA 122 to, aI t hoA 31 ho, aI t keA 31 ke]) (ws1 := [oB hM 5 [.ref zA, .ref spA, .ref svA, .int (iI nsv), .ref soA, .ref ikA, .ref txA, .int (iI len), .int (iI thr), .int (iI nvi), .ref viA, .int (iI low), .int (iI high), .ref srA, .ref frA, .ref toA, .ref hoA, .ref keA, .int (iI nto), .int (iI spo), .int (iI mos)], aI t zA 646 z, aI t spA 646 sp, aI t svA 3876 sv, aI t soA 1292 so, aZ t ikA 2 ik, aI t txA 60 tx, aI t viA 120 vi, aI t srA 120 sr, aI t frA 122 fr, aI t toA 122 to, aI t hoA 31 ho, aI t keA 31 ke] ++ []) [0, 1, 2, 3, 4, 5, 6, 7, 8, 9, 10, 11, 12] 13 rfl (by decide +kernel) rfl) rfl rfl (met_X5_seek l D t hM zA spA svA soA ikA txA viA srA frA toA hoA keA nsv len thr nvi low high nto spo mos z sp sv so ik tx vi sr fr to ho ke x1 x2 _ hv) rfl gX5_depthOf_X5_seek rfl ⟨rfl, rfl⟩ ok_X5_seek (by decide) (Nat.le_of_ble_eq_true rfl) dX5_depthOf_3 (by decide) (fun u9 hv => ?_)
  obtain ⟨nvi_1, low_1, high_1, vi_1⟩ := u9
  try dsimp only at hv
  refine V_perm (ws1 := [oB hM 5 [.ref zA, .ref spA, .ref svA, .int (iI nsv), .ref soA, .ref ikA, .ref txA, .int (iI len), .int (iI thr), .int (iI nvi_1), .ref viA, .int (iI low_1), .int (iI high_1), .ref srA, .ref frA, .ref toA, .ref hoA, .ref keA, .int (iI nto), .int (iI spo), .int (iI mos)], aI t zA 646 z, aI t spA 646 sp, aI t svA 3876 sv, aI t soA 1292 so, aZ t ikA 2 ik, aI t txA 60 tx, aI t viA 120 vi_1, aI t srA 120 sr, aI t frA 122 fr, aI t toA 122 to, aI t hoA 31 ho, aI t keA 31 ke]) (pmI (ws := [oB hM 5 [.ref zA, .ref spA, .ref svA, .int (iI nsv), .ref soA, .ref ikA, .ref txA, .int (iI len), .int (iI thr), .int (iI nvi_1), .ref viA, .int (iI low_1), .int (iI high_1), .ref srA, .ref frA, .ref toA, .ref hoA, .ref keA, .int (iI nto), .int (iI spo), .int (iI mos)], aI t zA 646 z, aI t spA 646 sp, aI t svA 3876 sv, aI t soA 1292 so, aZ t ikA 2 ik, aI t txA 60 tx, aI t viA 120 vi_1, aI t srA 120 sr, aI t frA 122 fr, aI t toA 122 to, aI t hoA 31 ho, aI t keA 31 ke] ++ []) (ws1 := [oB hM 5 [.ref zA, .ref spA, .ref svA, .int (iI nsv), .ref soA, .ref ikA, .ref txA, .int (iI len), .int (iI thr), .int (iI nvi_1), .ref viA, .int (iI low_1), .int (iI high_1), .ref srA, .ref frA, .ref toA, .ref hoA, .ref keA, .int (iI nto), .int (iI spo), .int (iI mos)], aI t zA 646 z, aI t spA 646 sp, aI t svA 3876 sv, aI t soA 1292 so, aZ t ikA 2 ik, aI t txA 60 tx, aI t viA 120 vi_1, aI t srA 120 sr, aI t frA 122 fr, aI t toA 122 to, aI t hoA 31 ho, aI t keA 31 ke]) [0, 1, 2, 3, 4, 5, 6, 7, 8, 9, 10, 11, 12] 13 rfl (by decide +kernel) rfl) ?_
  refine V_aload_n hc dX5_depthOf_6 0 rfl ?_
  refine V_get (C := RX5) (T := TX5) (N := 21) hc i_X5_depthOf_5 0 rfl rfl 9 (by decide) m_X5_depthOf_66 rfl dX5_depthOf_7 ?_
  exact V_iret hc hr (nvi_1, low_1, high_1, vi_1) hv rfl dX5_depthOf_10
abbrev W1_X5_depthIn (t : Nat → ClassId) (hM : Nat) (zA : Nat) (spA : Nat) (svA : Nat) (soA : Nat) (ikA : Nat) (txA : Nat) (viA : Nat) (srA : Nat) (frA : Nat) (toA : Nat) (hoA : Nat) (keA : Nat) (nsv : Int) (len : Int) (thr : Int) (nto : Int) (spo : Int) (mos : Int) (z : Nat → Int) (sp : Nat → Int) (sv : Nat → Int) (so : Nat → Int) (ik : Nat → Int) (tx : Nat → Int) (sr : Nat → Int) (fr : Nat → Int) (to : Nat → Int) (ho : Nat → Int) (ke : Nat → Int) (u : (Int) × (Int) × (Int) × (Nat → Int)) : va_W := [oB hM 5 [.ref zA, .ref spA, .ref svA, .int (iI nsv), .ref soA, .ref ikA, .ref txA, .int (iI len), .int (iI thr), .int (iI u.1), .ref viA, .int (iI u.2.1), .int (iI u.2.2.1), .ref srA, .ref frA, .ref toA, .ref hoA, .ref keA, .int (iI nto), .int (iI spo), .int (iI mos)], aI t zA 646 z, aI t spA 646 sp, aI t svA 3876 sv, aI t soA 1292 so, aZ t ikA 2 ik, aI t txA 60 tx, aI t viA 120 u.2.2.2, aI t srA 120 sr, aI t frA 122 fr, aI t toA 122 to, aI t hoA 31 ho, aI t keA 31 ke]
abbrev po_X5_depthIn (Q : Int → (Int) → (Int) → (Int) → (Nat → Int) → Prop) (r : Int) (u : (Int) × (Int) × (Int) × (Nat → Int)) : Prop := Q r u.1 u.2.1 u.2.2.1 u.2.2.2
abbrev rm_X5_depthIn : Room := { frames := 2, cells := 0, slots := 0, locals := 47 }
def wp_X5_depthIn_4 (z : Nat → Int) (x1 : Int) (Q : Int → (Int) → (Int) → (Int) → (Nat → Int) → Prop) (K_4 : (Int) → (Int) → (Int) → (Nat → Int) → Int → Int → Prop) (nvi : Int) (low : Int) (high : Int) (vi : Nat → Int) (x2 : Int) (x3 : Int) : Prop := (0 ≤ x1 ∧ x1 < 646) ∧ inR x3 ∧ inR (z x1.toNat) ∧ (x3 ≥ z x1.toNat → Q x2 nvi low high vi) ∧ (¬ (x3 ≥ z x1.toNat) → (0 ≤ (x1 + 1) + x3 ∧ (x1 + 1) + x3 < 646) ∧ wp_X5_depthOf nvi low high z vi x1 (z ((x1 + 1) + x3).toNat) (fun r_1 nvi_1 low_1 high_1 vi_1 => inR r_1 ∧ inR x2 ∧ (r_1 ≤ x2 → K_4 nvi_1 low_1 high_1 vi_1 x2 (x3 + 1)) ∧ (¬ (r_1 ≤ x2) → K_4 nvi_1 low_1 high_1 vi_1 r_1 (x3 + 1))))
def wp_X5_depthIn (nvi : Int) (low : Int) (high : Int) (z : Nat → Int) (vi : Nat → Int) (x1 : Int) (Q : Int → (Int) → (Int) → (Int) → (Nat → Int) → Prop) : Prop := (∃ n, lq6 (wp_X5_depthIn_4 z x1 Q) n nvi low high vi 0 0)
theorem m_X5_depthIn_7 : Cond.fieldLink RX5 7 "BackgroundRebuildModel" "z" "[I" ∈ wsX5_depthIn := by decide +kernel
theorem i_X5_depthIn_5 : ∀ w ∈ u_ws RX5 TX5 21, w ∈ wsX5_depthIn := by decide +kernel
theorem ok_X5_depthIn : yX5_depthIn.cls = RX5 ∧ yX5_depthIn.cls ≠ "java/lang/invoke/MethodHandle" ∧ yX5_depthIn.cls ≠ "java/lang/invoke/VarHandle" ∧ (parseMethodDescriptor yX5_depthIn.desc).map (fun d => d.parameters.length) = some 1 := by decide +kernel
set_option maxHeartbeats 4000000 in
set_option maxRecDepth 100000 in
theorem met_X5_depthIn (l : Launch) (D : va_G) (t : Nat → ClassId) (hM : Nat) (zA : Nat) (spA : Nat) (svA : Nat) (soA : Nat) (ikA : Nat) (txA : Nat) (viA : Nat) (srA : Nat) (frA : Nat) (toA : Nat) (hoA : Nat) (keA : Nat) (nsv : Int) (len : Int) (thr : Int) (nvi : Int) (low : Int) (high : Int) (nto : Int) (spo : Int) (mos : Int) (z : Nat → Int) (sp : Nat → Int) (sv : Nat → Int) (so : Nat → Int) (ik : Nat → Int) (tx : Nat → Int) (vi : Nat → Int) (sr : Nat → Int) (fr : Nat → Int) (to : Nat → Int) (ho : Nat → Int) (ke : Nat → Int) (x1 : Int) (Q : Int → (Int) → (Int) → (Int) → (Nat → Int) → Prop) (hv : wp_X5_depthIn nvi low high z vi x1 Q) : MI l D t yX5_depthIn wsX5_depthIn rm_X5_depthIn [.ref hM, .int (iI x1)] [oB hM 5 [.ref zA, .ref spA, .ref svA, .int (iI nsv), .ref soA, .ref ikA, .ref txA, .int (iI len), .int (iI thr), .int (iI nvi), .ref viA, .int (iI low), .int (iI high), .ref srA, .ref frA, .ref toA, .ref hoA, .ref keA, .int (iI nto), .int (iI spo), .int (iI mos)], aI t zA 646 z, aI t spA 646 sp, aI t svA 3876 sv, aI t soA 1292 so, aZ t ikA 2 ik, aI t txA 60 tx, aI t viA 120 vi, aI t srA 120 sr, aI t frA 122 fr, aI t toA 122 to, aI t hoA 31 ho, aI t keA 31 ke] (W1_X5_depthIn t hM zA spA svA soA ikA txA viA srA frA toA hoA keA nsv len thr nto spo mos z sp sv so ik tx sr fr to ho ke) (po_X5_depthIn Q) 0 0 := by
  refine M_ofi (cc := cX5_depthIn) (nL := 5) (by decide) rfl (Nat.le_of_ble_eq_true rfl) ?_
  intro p e s m args below meth c A hc hr
  have L_4 : ∀ (z : Nat → Int) (x1 : Int) (n9 : Nat) (nvi : Int) (low : Int) (high : Int) (vi : Nat → Int) (x2 : Int) (x3 : Int), lq6 (wp_X5_depthIn_4 z x1 Q) n9 nvi low high vi x2 x3 → V p l e rm_X5_depthIn s m args below meth c D A 5 0 0 (MQ below (QI D A (W1_X5_depthIn t hM zA spA svA soA ikA txA viA srA frA toA hoA keA nsv len thr nto spo mos z sp sv so ik tx sr fr to ho ke) (po_X5_depthIn Q)) args s 0 0 A) 4 [(0, .ref hM), (1, .int (iI x1)), (2, .int (iI x2)), (3, .int (iI x3))] [] [oB hM 5 [.ref zA, .ref spA, .ref svA, .int (iI nsv), .ref soA, .ref ikA, .ref txA, .int (iI len), .int (iI thr), .int (iI nvi), .ref viA, .int (iI low), .int (iI high), .ref srA, .ref frA, .ref toA, .ref hoA, .ref keA, .int (iI nto), .int (iI spo), .int (iI mos)], aI t zA 646 z, aI t spA 646 sp, aI t svA 3876 sv, aI t soA 1292 so, aZ t ikA 2 ik, aI t txA 60 tx, aI t viA 120 vi, aI t srA 120 sr, aI t frA 122 fr, aI t toA 122 to, aI t hoA 31 ho, aI t keA 31 ke] := by
    intro z x1 n9
    induction n9 with
    | zero =>
      intro nvi low high vi x2 x3 hv
      exact hv.elim
    | succ n9 ih =>
      intro nvi low high vi x2 x3 hv
      have hv : wp_X5_depthIn_4 z x1 Q (lq6 (wp_X5_depthIn_4 z x1 Q) n9) nvi low high vi x2 x3 := hv
      generalize lq6 (wp_X5_depthIn_4 z x1 Q) n9 = K_4 at hv ih
      have hK_4 := ih
      unfold wp_X5_depthIn_4 at hv
      refine V_iload_n hc dX5_depthIn_4 3 rfl ?_
      refine V_aload_n hc dX5_depthIn_5 0 rfl ?_
      refine V_get (C := RX5) (T := TX5) (N := 21) hc i_X5_depthIn_5 0 rfl rfl 0 (by decide) m_X5_depthIn_7 rfl dX5_depthIn_6 ?_
      refine V_iload_n hc dX5_depthIn_9 1 rfl ?_
      refine V_iald hc 1 rfl (by decide) hv dX5_depthIn_10 (fun hv => ?_)
      refine V_icmp_ge (tgt := 50) hc dX5_depthIn_11 (by decide) hv (fun hv => ?_) (fun hv => ?_)
      · refine V_iload_n hc dX5_depthIn_50 2 rfl ?_
        exact V_iret hc hr (nvi, low, high, vi) hv rfl dX5_depthIn_51
      · refine V_aload_n hc dX5_depthIn_14 0 rfl ?_
        refine V_iload_n hc dX5_depthIn_15 1 rfl ?_
        refine V_aload_n hc dX5_depthIn_16 0 rfl ?_
        refine V_get (C := RX5) (T := TX5) (N := 21) hc i_X5_depthIn_5 0 rfl rfl 0 (by decide) m_X5_depthIn_7 rfl dX5_depthIn_17 ?_
        refine V_iload_n hc dX5_depthIn_20 1 rfl ?_
        refine V_iconst hc dX5_depthIn_21 ?_
        refine V_iadd hc dX5_depthIn_22 ?_
        refine V_iload_n hc dX5_depthIn_23 3 rfl ?_
        refine V_iadd hc dX5_depthIn_24 ?_
        refine V_iald hc 1 rfl (by decide) hv dX5_depthIn_25 (fun hv => ?_)
        refine V_callVI (As := [.int (iI x1), .int (iI (z ((x1 + 1) + x3).toNat))]) hc (wc := [oB hM 5 [.ref zA, .ref spA, .ref svA, .int (iI nsv), .ref soA, .ref ikA, .ref txA, .int (iI len), .int (iI thr), .int (iI nvi), .ref viA, .int (iI low), .int (iI high), .ref srA, .ref frA, .ref toA, .ref hoA, .ref keA, .int (iI nto), .int (iI spo), .int (iI mos)], aI t zA 646 z, aI t spA 646 sp, aI t svA 3876 sv, aI t soA 1292 so, aZ t ikA 2 ik, aI t txA 60 tx, aI t viA 120 vi, aI t srA 120 sr, aI t frA 122 fr, aI t toA 122 to, aI t hoA 31 ho, aI t keA 31 ke]) (wr := []) (pmI (ws := [oB hM 5 [.ref zA, .ref spA, .ref svA, .int (iI nsv), .ref soA, .ref ikA, .ref txA, .int (iI len), .int (iI thr), .int (iI nvi), .ref viA, .int (iI low), .int (iI high), .ref srA, .ref frA, .ref toA, .ref hoA, .ref keA, .int (iI nto), .int (iI spo), .int (iI mos)], aI t zA 646 z, aI t spA 646 sp, aI t svA 3876 sv, aI t soA 1292 so, aZ t ikA 2 ik, aI t txA 60 tx, aI t viA 120 vi, aI t srA 120 sr, aI t frA 122 fr, aI t toA 122 to, aI t hoA 31 ho, aI t keA 31 ke]) (ws1 := [oB hM 5 [.ref zA, .ref spA, .ref svA, .int (iI nsv), .ref soA, .ref ikA, .ref txA, .int (iI len), .int (iI thr), .int (iI nvi), .ref viA, .int (iI low), .int (iI high), .ref srA, .ref frA, .ref toA, .ref hoA, .ref keA, .int (iI nto), .int (iI spo), .int (iI mos)], aI t zA 646 z, aI t spA 646 sp, aI t svA 3876 sv, aI t soA 1292 so, aZ t ikA 2 ik, aI t txA 60 tx, aI t viA 120 vi, aI t srA 120 sr, aI t frA 122 fr, aI t toA 122 to, aI t hoA 31 ho, aI t keA 31 ke] ++ []) [0, 1, 2, 3, 4, 5, 6, 7, 8, 9, 10, 11, 12] 13 rfl (by decide +kernel) rfl) rfl rfl (met_X5_depthOf l D t hM zA spA svA soA ikA txA viA srA frA toA hoA keA nsv len thr nvi low high nto spo mos z sp sv so ik tx vi sr fr to ho ke x1 (z ((x1 + 1) + x3).toNat) _ hv) rfl gX5_depthIn_X5_depthOf rfl ⟨rfl, rfl⟩ ok_X5_depthOf (by decide) (Nat.le_of_ble_eq_true rfl) dX5_depthIn_26 (by decide) (fun r_1 u9 hv => ?_)
        obtain ⟨nvi_1, low_1, high_1, vi_1⟩ := u9
        try dsimp only at hv
        refine V_perm (ws1 := [oB hM 5 [.ref zA, .ref spA, .ref svA, .int (iI nsv), .ref soA, .ref ikA, .ref txA, .int (iI len), .int (iI thr), .int (iI nvi_1), .ref viA, .int (iI low_1), .int (iI high_1), .ref srA, .ref frA, .ref toA, .ref hoA, .ref keA, .int (iI nto), .int (iI spo), .int (iI mos)], aI t zA 646 z, aI t spA 646 sp, aI t svA 3876 sv, aI t soA 1292 so, aZ t ikA 2 ik, aI t txA 60 tx, aI t viA 120 vi_1, aI t srA 120 sr, aI t frA 122 fr, aI t toA 122 to, aI t hoA 31 ho, aI t keA 31 ke]) (pmI (ws := [oB hM 5 [.ref zA, .ref spA, .ref svA, .int (iI nsv), .ref soA, .ref ikA, .ref txA, .int (iI len), .int (iI thr), .int (iI nvi_1), .ref viA, .int (iI low_1), .int (iI high_1), .ref srA, .ref frA, .ref toA, .ref hoA, .ref keA, .int (iI nto), .int (iI spo), .int (iI mos)], aI t zA 646 z, aI t spA 646 sp, aI t svA 3876 sv, aI t soA 1292 so, aZ t ikA 2 ik, aI t txA 60 tx, aI t viA 120 vi_1, aI t srA 120 sr, aI t frA 122 fr, aI t toA 122 to, aI t hoA 31 ho, aI t keA 31 ke] ++ []) (ws1 := [oB hM 5 [.ref zA, .ref spA, .ref svA, .int (iI nsv), .ref soA, .ref ikA, .ref txA, .int (iI len), .int (iI thr), .int (iI nvi_1), .ref viA, .int (iI low_1), .int (iI high_1), .ref srA, .ref frA, .ref toA, .ref hoA, .ref keA, .int (iI nto), .int (iI spo), .int (iI mos)], aI t zA 646 z, aI t spA 646 sp, aI t svA 3876 sv, aI t soA 1292 so, aZ t ikA 2 ik, aI t txA 60 tx, aI t viA 120 vi_1, aI t srA 120 sr, aI t frA 122 fr, aI t toA 122 to, aI t hoA 31 ho, aI t keA 31 ke]) [0, 1, 2, 3, 4, 5, 6, 7, 8, 9, 10, 11, 12] 13 rfl (by decide +kernel) rfl) ?_
        refine V_istore hc dX5_depthIn_29 [(4, .int (iI r_1)), (0, .ref hM), (1, .int (iI x1)), (2, .int (iI x2)), (3, .int (iI x3))] (by decide) rfl ?_
        refine V_iload hc dX5_depthIn_31 0 rfl ?_
        refine V_iload_n hc dX5_depthIn_33 3 rfl ?_
        refine V_icmp_le (tgt := 42) hc dX5_depthIn_34 (by decide) hv (fun hv => ?_) (fun hv => ?_)
        · refine V_iload_n hc dX5_depthIn_42 3 rfl ?_
          refine V_istore_n hc dX5_depthIn_43 [(2, .int (iI x2)), (4, .int (iI r_1)), (0, .ref hM), (1, .int (iI x1)), (3, .int (iI x3))] (by decide) rfl ?_
          refine V_iinc hc dX5_depthIn_44 4 rfl [(3, .int (iI (x3 + 1))), (2, .int (iI x2)), (4, .int (iI r_1)), (0, .ref hM), (1, .int (iI x1))] (by decide) rfl ?_
          refine V_goto (tgt := 4) hc dX5_depthIn_47 (by decide) ?_
          refine V_lv [3, 4, 1, 0] [(0, .ref hM), (1, .int (iI x1)), (2, .int (iI x2)), (3, .int (iI (x3 + 1)))] rfl ?_
          exact hK_4 nvi_1 low_1 high_1 vi_1 x2 (x3 + 1) hv
        · refine V_iload hc dX5_depthIn_37 0 rfl ?_
          refine V_goto (tgt := 43) hc dX5_depthIn_39 (by decide) ?_
          refine V_istore_n hc dX5_depthIn_43 [(2, .int (iI r_1)), (4, .int (iI r_1)), (0, .ref hM), (1, .int (iI x1)), (3, .int (iI x3))] (by decide) rfl ?_
          refine V_iinc hc dX5_depthIn_44 4 rfl [(3, .int (iI (x3 + 1))), (2, .int (iI r_1)), (4, .int (iI r_1)), (0, .ref hM), (1, .int (iI x1))] (by decide) rfl ?_
          refine V_goto (tgt := 4) hc dX5_depthIn_47 (by decide) ?_
          refine V_lv [3, 4, 1, 0] [(0, .ref hM), (1, .int (iI x1)), (2, .int (iI r_1)), (3, .int (iI (x3 + 1)))] rfl ?_
          exact hK_4 nvi_1 low_1 high_1 vi_1 r_1 (x3 + 1) hv
  refine V_lv [0, 1] [(0, .ref hM), (1, .int (iI x1))] rfl ?_
  unfold wp_X5_depthIn at hv
  refine V_iconst hc dX5_depthIn_0 ?_
  refine V_istore_n hc dX5_depthIn_1 [(2, .int (iI 0)), (0, .ref hM), (1, .int (iI x1))] (by decide) rfl ?_
  refine V_iconst hc dX5_depthIn_2 ?_
  refine V_istore_n hc dX5_depthIn_3 [(3, .int (iI 0)), (2, .int (iI 0)), (0, .ref hM), (1, .int (iI x1))] (by decide) rfl ?_
  refine V_lv [2, 3, 1, 0] [(0, .ref hM), (1, .int (iI x1)), (2, .int (iI 0)), (3, .int (iI 0))] rfl ?_
  obtain ⟨n9, hv⟩ := hv
  exact L_4 z x1 n9 nvi low high vi 0 0 hv
abbrev W1_X5_makeList (t : Nat → ClassId) (hM : Nat) (zA : Nat) (spA : Nat) (svA : Nat) (soA : Nat) (ikA : Nat) (txA : Nat) (viA : Nat) (srA : Nat) (frA : Nat) (toA : Nat) (hoA : Nat) (keA : Nat) (nsv : Int) (len : Int) (thr : Int) (nvi : Int) (low : Int) (high : Int) (nto : Int) (spo : Int) (mos : Int) (sp : Nat → Int) (sv : Nat → Int) (so : Nat → Int) (ik : Nat → Int) (tx : Nat → Int) (vi : Nat → Int) (ho : Nat → Int) (ke : Nat → Int) (u : (Nat → Int) × (Nat → Int) × (Nat → Int) × (Nat → Int)) : va_W := [oB hM 5 [.ref zA, .ref spA, .ref svA, .int (iI nsv), .ref soA, .ref ikA, .ref txA, .int (iI len), .int (iI thr), .int (iI nvi), .ref viA, .int (iI low), .int (iI high), .ref srA, .ref frA, .ref toA, .ref hoA, .ref keA, .int (iI nto), .int (iI spo), .int (iI mos)], aI t zA 646 u.1, aI t spA 646 sp, aI t svA 3876 sv, aI t soA 1292 so, aZ t ikA 2 ik, aI t txA 60 tx, aI t viA 120 vi, aI t srA 120 u.2.1, aI t frA 122 u.2.2.1, aI t toA 122 u.2.2.2, aI t hoA 31 ho, aI t keA 31 ke]
abbrev po_X5_makeList (Q : (Nat → Int) → (Nat → Int) → (Nat → Int) → (Nat → Int) → Prop) (u : (Nat → Int) × (Nat → Int) × (Nat → Int) × (Nat → Int)) : Prop := Q u.1 u.2.1 u.2.2.1 u.2.2.2
abbrev rm_X5_makeList : Room := { frames := 2, cells := 0, slots := 0, locals := 47 }
def wp_X5_makeList_54 (sr : Nat → Int) (x1 : Int) (Q : (Nat → Int) → (Nat → Int) → (Nat → Int) → (Nat → Int) → Prop) (K_54 : (Nat → Int) → (Nat → Int) → (Nat → Int) → Int → Int → Prop) (z : Nat → Int) (fr : Nat → Int) (to : Nat → Int) (x2 : Int) (x3 : Int) : Prop := inR x2 ∧ (x2 ≤ 0 → Q (uI z 483 x1) sr fr to) ∧ (¬ (x2 ≤ 0) → (0 ≤ x2 + (-1) ∧ x2 + (-1) < 122) ∧ (0 ≤ x2 + (-1) ∧ x2 + (-1) < 122) ∧ inR (fr (x2 + (-1)).toNat) ∧ inR (to (x2 + (-1)).toNat) ∧ (fr (x2 + (-1)).toNat ≥ to (x2 + (-1)).toNat → K_54 z fr to (x2 + (-1)) x3) ∧ (¬ (fr (x2 + (-1)).toNat ≥ to (x2 + (-1)).toNat) → (0 ≤ (to (x2 + (-1)).toNat) - (fr (x2 + (-1)).toNat) ∧ (to (x2 + (-1)).toNat) - (fr (x2 + (-1)).toNat) ≤ 2147483647) ∧ (0 ≤ (fr (x2 + (-1)).toNat) + (((to (x2 + (-1)).toNat) - (fr (x2 + (-1)).toNat)) / 2) ∧ (fr (x2 + (-1)).toNat) + (((to (x2 + (-1)).toNat) - (fr (x2 + (-1)).toNat)) / 2) < 120) ∧ (0 ≤ 486 + x3 ∧ 486 + x3 < 646) ∧ (0 ≤ x2 + (-1) ∧ x2 + (-1) < 122) ∧ (0 ≤ x2 + (-1) ∧ x2 + (-1) < 122) ∧ (0 ≤ (x2 + (-1)) + 1 ∧ (x2 + (-1)) + 1 < 122) ∧ (0 ≤ (x2 + (-1)) + 1 ∧ (x2 + (-1)) + 1 < 122) ∧ K_54 (uI z ((486 + x3).toNat) (sr ((fr (x2 + (-1)).toNat) + (((to (x2 + (-1)).toNat) - (fr (x2 + (-1)).toNat)) / 2)).toNat)) (uI (uI fr ((x2 + (-1)).toNat) (((fr (x2 + (-1)).toNat) + (((to (x2 + (-1)).toNat) - (fr (x2 + (-1)).toNat)) / 2)) + 1)) (((x2 + (-1)) + 1).toNat) (fr (x2 + (-1)).toNat)) (uI (uI to ((x2 + (-1)).toNat) (to (x2 + (-1)).toNat)) (((x2 + (-1)) + 1).toNat) ((fr (x2 + (-1)).toNat) + (((to (x2 + (-1)).toNat) - (fr (x2 + (-1)).toNat)) / 2))) ((x2 + (-1)) + 2) (x3 + 1)))
def wp_X5_makeList_4 (z : Nat → Int) (fr : Nat → Int) (to : Nat → Int) (Q : (Nat → Int) → (Nat → Int) → (Nat → Int) → (Nat → Int) → Prop) (K_4 : (Nat → Int) → Int → Int → Prop) (sr : Nat → Int) (x1 : Int) (x2 : Int) : Prop := inR x2 ∧ (x2 ≥ 500 → (∃ n, lq5 (wp_X5_makeList_54 sr x1 Q) n z (uI fr 0 0) (uI to 0 x1) 1 0)) ∧ (¬ (x2 ≥ 500) → wp_X5_isPresent z 0 x2 (fun r_1 => inR r_1 ∧ (r_1 = 0 → K_4 sr x1 (x2 + 1)) ∧ (¬ (r_1 = 0) → (0 ≤ x1 ∧ x1 < 120) ∧ K_4 (uI sr (x1.toNat) x2) (x1 + 1) (x2 + 1))))
def wp_X5_makeList (z : Nat → Int) (sr : Nat → Int) (fr : Nat → Int) (to : Nat → Int) (Q : (Nat → Int) → (Nat → Int) → (Nat → Int) → (Nat → Int) → Prop) : Prop := (∃ n, lq3 (wp_X5_makeList_4 z fr to Q) n sr 0 0)
theorem m_X5_makeList_35 : Cond.fieldLink RX5 35 "BackgroundRebuildModel" "froms" "[I" ∈ wsX5_makeList := by decide +kernel
theorem m_X5_makeList_38 : Cond.fieldLink RX5 38 "BackgroundRebuildModel" "tos" "[I" ∈ wsX5_makeList := by decide +kernel
theorem m_X5_makeList_32 : Cond.fieldLink RX5 32 "BackgroundRebuildModel" "sorted" "[I" ∈ wsX5_makeList := by decide +kernel
theorem m_X5_makeList_7 : Cond.fieldLink RX5 7 "BackgroundRebuildModel" "z" "[I" ∈ wsX5_makeList := by decide +kernel
theorem i_X5_makeList_5 : ∀ w ∈ u_ws RX5 TX5 21, w ∈ wsX5_makeList := by decide +kernel
theorem ok_X5_makeList : yX5_makeList.cls = RX5 ∧ yX5_makeList.cls ≠ "java/lang/invoke/MethodHandle" ∧ yX5_makeList.cls ≠ "java/lang/invoke/VarHandle" ∧ (parseMethodDescriptor yX5_makeList.desc).map (fun d => d.parameters.length) = some 0 := by decide +kernel
set_option maxHeartbeats 4000000 in
set_option maxRecDepth 100000 in
theorem met_X5_makeList (l : Launch) (D : va_G) (t : Nat → ClassId) (hM : Nat) (zA : Nat) (spA : Nat) (svA : Nat) (soA : Nat) (ikA : Nat) (txA : Nat) (viA : Nat) (srA : Nat) (frA : Nat) (toA : Nat) (hoA : Nat) (keA : Nat) (nsv : Int) (len : Int) (thr : Int) (nvi : Int) (low : Int) (high : Int) (nto : Int) (spo : Int) (mos : Int) (z : Nat → Int) (sp : Nat → Int) (sv : Nat → Int) (so : Nat → Int) (ik : Nat → Int) (tx : Nat → Int) (vi : Nat → Int) (sr : Nat → Int) (fr : Nat → Int) (to : Nat → Int) (ho : Nat → Int) (ke : Nat → Int) (Q : (Nat → Int) → (Nat → Int) → (Nat → Int) → (Nat → Int) → Prop) (hv : wp_X5_makeList z sr fr to Q) : MV l D t yX5_makeList wsX5_makeList rm_X5_makeList [.ref hM] [oB hM 5 [.ref zA, .ref spA, .ref svA, .int (iI nsv), .ref soA, .ref ikA, .ref txA, .int (iI len), .int (iI thr), .int (iI nvi), .ref viA, .int (iI low), .int (iI high), .ref srA, .ref frA, .ref toA, .ref hoA, .ref keA, .int (iI nto), .int (iI spo), .int (iI mos)], aI t zA 646 z, aI t spA 646 sp, aI t svA 3876 sv, aI t soA 1292 so, aZ t ikA 2 ik, aI t txA 60 tx, aI t viA 120 vi, aI t srA 120 sr, aI t frA 122 fr, aI t toA 122 to, aI t hoA 31 ho, aI t keA 31 ke] (W1_X5_makeList t hM zA spA svA soA ikA txA viA srA frA toA hoA keA nsv len thr nvi low high nto spo mos sp sv so ik tx vi ho ke) (po_X5_makeList Q) 0 0 := by
  refine M_ofv (cc := cX5_makeList) (nL := 7) (by decide) rfl (Nat.le_of_ble_eq_true rfl) ?_
  intro p e s m args below meth c A hc hr
  have L_54 : ∀ (sr : Nat → Int) (x1 : Int) (n9 : Nat) (z : Nat → Int) (fr : Nat → Int) (to : Nat → Int) (x2 : Int) (x3 : Int), lq5 (wp_X5_makeList_54 sr x1 Q) n9 z fr to x2 x3 → V p l e rm_X5_makeList s m args below meth c D A 7 0 0 (MQ below (QV D A (W1_X5_makeList t hM zA spA svA soA ikA txA viA srA frA toA hoA keA nsv len thr nvi low high nto spo mos sp sv so ik tx vi ho ke) (po_X5_makeList Q)) args s 0 0 A) 54 [(0, .ref hM), (1, .int (iI x1)), (2, .int (iI x2)), (3, .int (iI x3))] [] [oB hM 5 [.ref zA, .ref spA, .ref svA, .int (iI nsv), .ref soA, .ref ikA, .ref txA, .int (iI len), .int (iI thr), .int (iI nvi), .ref viA, .int (iI low), .int (iI high), .ref srA, .ref frA, .ref toA, .ref hoA, .ref keA, .int (iI nto), .int (iI spo), .int (iI mos)], aI t zA 646 z, aI t spA 646 sp, aI t svA 3876 sv, aI t soA 1292 so, aZ t ikA 2 ik, aI t txA 60 tx, aI t viA 120 vi, aI t srA 120 sr, aI t frA 122 fr, aI t toA 122 to, aI t hoA 31 ho, aI t keA 31 ke] := by
    intro sr x1 n9
    induction n9 with
    | zero =>
      intro z fr to x2 x3 hv
      exact hv.elim
    | succ n9 ih =>
      intro z fr to x2 x3 hv
      have hv : wp_X5_makeList_54 sr x1 Q (lq5 (wp_X5_makeList_54 sr x1 Q) n9) z fr to x2 x3 := hv
      generalize lq5 (wp_X5_makeList_54 sr x1 Q) n9 = K_54 at hv ih
      have hK_54 := ih
      unfold wp_X5_makeList_54 at hv
      refine V_iload_n hc dX5_makeList_54 2 rfl ?_
      refine V_if_le (tgt := 160) hc dX5_makeList_55 (by decide) hv (fun hv => ?_) (fun hv => ?_)
      · refine V_aload_n hc dX5_makeList_160 0 rfl ?_
        refine V_get (C := RX5) (T := TX5) (N := 21) hc i_X5_makeList_5 0 rfl rfl 0 (by decide) m_X5_makeList_7 rfl dX5_makeList_161 ?_
        refine V_sipush hc dX5_makeList_164 (by decide) ?_
        refine V_iload_n hc dX5_makeList_167 1 rfl ?_
        refine V_iast hc 1 rfl (by decide) ⟨by decide, hv⟩ dX5_makeList_168 [oB hM 5 [.ref zA, .ref spA, .ref svA, .int (iI nsv), .ref soA, .ref ikA, .ref txA, .int (iI len), .int (iI thr), .int (iI nvi), .ref viA, .int (iI low), .int (iI high), .ref srA, .ref frA, .ref toA, .ref hoA, .ref keA, .int (iI nto), .int (iI spo), .int (iI mos)], aI t zA 646 (uI z 483 x1), aI t spA 646 sp, aI t svA 3876 sv, aI t soA 1292 so, aZ t ikA 2 ik, aI t txA 60 tx, aI t viA 120 vi, aI t srA 120 sr, aI t frA 122 fr, aI t toA 122 to, aI t hoA 31 ho, aI t keA 31 ke] rfl (fun hv => ?_)
        exact V_vret hc hr (uI z 483 x1, sr, fr, to) hv rfl dX5_makeList_169
      · refine V_iinc hc dX5_makeList_58 2 rfl [(2, .int (iI (x2 + (-1)))), (0, .ref hM), (1, .int (iI x1)), (3, .int (iI x3))] (by decide) rfl ?_
        refine V_aload_n hc dX5_makeList_61 1 rfl ?_
        refine V_get (C := RX5) (T := TX5) (N := 21) hc i_X5_makeList_5 0 rfl rfl 14 (by decide) m_X5_makeList_35 rfl dX5_makeList_62 ?_
        refine V_iload_n hc dX5_makeList_65 0 rfl ?_
        refine V_iald hc 9 rfl (by decide) hv dX5_makeList_66 (fun hv => ?_)
        refine V_istore hc dX5_makeList_67 [(4, .int (iI (fr (x2 + (-1)).toNat))), (2, .int (iI (x2 + (-1)))), (0, .ref hM), (1, .int (iI x1)), (3, .int (iI x3))] (by decide) rfl ?_
        refine V_aload_n hc dX5_makeList_69 2 rfl ?_
        refine V_get (C := RX5) (T := TX5) (N := 21) hc i_X5_makeList_5 0 rfl rfl 15 (by decide) m_X5_makeList_38 rfl dX5_makeList_70 ?_
        refine V_iload_n hc dX5_makeList_73 1 rfl ?_
        refine V_iald hc 10 rfl (by decide) hv dX5_makeList_74 (fun hv => ?_)
        refine V_istore hc dX5_makeList_75 [(5, .int (iI (to (x2 + (-1)).toNat))), (4, .int (iI (fr (x2 + (-1)).toNat))), (2, .int (iI (x2 + (-1)))), (0, .ref hM), (1, .int (iI x1)), (3, .int (iI x3))] (by decide) rfl ?_
        refine V_iload hc dX5_makeList_77 1 rfl ?_
        refine V_iload hc dX5_makeList_79 0 rfl ?_
        refine V_icmp_ge (tgt := 157) hc dX5_makeList_81 (by decide) hv (fun hv => ?_) (fun hv => ?_)
        · refine V_goto (tgt := 54) hc dX5_makeList_157 (by decide) ?_
          refine V_lv [3, 4, 2, 5] [(0, .ref hM), (1, .int (iI x1)), (2, .int (iI (x2 + (-1)))), (3, .int (iI x3))] rfl ?_
          exact hK_54 z fr to (x2 + (-1)) x3 hv
        · refine V_iload hc dX5_makeList_84 1 rfl ?_
          refine V_iload hc dX5_makeList_86 0 rfl ?_
          refine V_iload hc dX5_makeList_88 1 rfl ?_
          refine V_isub hc dX5_makeList_90 ?_
          refine V_iconst hc dX5_makeList_91 ?_
          refine V_idiv hc dX5_makeList_92 ⟨hv.1, by decide, hv.2⟩ (fun hv => ?_)
          refine V_iadd hc dX5_makeList_93 ?_
          refine V_istore hc dX5_makeList_94 [(6, .int (iI ((fr (x2 + (-1)).toNat) + (((to (x2 + (-1)).toNat) - (fr (x2 + (-1)).toNat)) / 2)))), (5, .int (iI (to (x2 + (-1)).toNat))), (4, .int (iI (fr (x2 + (-1)).toNat))), (2, .int (iI (x2 + (-1)))), (0, .ref hM), (1, .int (iI x1)), (3, .int (iI x3))] (by decide) rfl ?_
          refine V_aload_n hc dX5_makeList_96 4 rfl ?_
          refine V_get (C := RX5) (T := TX5) (N := 21) hc i_X5_makeList_5 0 rfl rfl 0 (by decide) m_X5_makeList_7 rfl dX5_makeList_97 ?_
          refine V_sipush hc dX5_makeList_100 (by decide) ?_
          refine V_iload_n hc dX5_makeList_103 6 rfl ?_
          refine V_iadd hc dX5_makeList_104 ?_
          refine V_aload_n hc dX5_makeList_105 4 rfl ?_
          refine V_get (C := RX5) (T := TX5) (N := 21) hc i_X5_makeList_5 0 rfl rfl 13 (by decide) m_X5_makeList_32 rfl dX5_makeList_106 ?_
          refine V_iload hc dX5_makeList_109 0 rfl ?_
          refine V_iald hc 8 rfl (by decide) hv dX5_makeList_111 (fun hv => ?_)
          refine V_iast hc 1 rfl (by decide) hv dX5_makeList_112 [oB hM 5 [.ref zA, .ref spA, .ref svA, .int (iI nsv), .ref soA, .ref ikA, .ref txA, .int (iI len), .int (iI thr), .int (iI nvi), .ref viA, .int (iI low), .int (iI high), .ref srA, .ref frA, .ref toA, .ref hoA, .ref keA, .int (iI nto), .int (iI spo), .int (iI mos)], aI t zA 646 (uI z ((486 + x3).toNat) (sr ((fr (x2 + (-1)).toNat) + (((to (x2 + (-1)).toNat) - (fr (x2 + (-1)).toNat)) / 2)).toNat)), aI t spA 646 sp, aI t svA 3876 sv, aI t soA 1292 so, aZ t ikA 2 ik, aI t txA 60 tx, aI t viA 120 vi, aI t srA 120 sr, aI t frA 122 fr, aI t toA 122 to, aI t hoA 31 ho, aI t keA 31 ke] rfl (fun hv => ?_)
          refine V_iinc hc dX5_makeList_113 6 rfl [(3, .int (iI (x3 + 1))), (6, .int (iI ((fr (x2 + (-1)).toNat) + (((to (x2 + (-1)).toNat) - (fr (x2 + (-1)).toNat)) / 2)))), (5, .int (iI (to (x2 + (-1)).toNat))), (4, .int (iI (fr (x2 + (-1)).toNat))), (2, .int (iI (x2 + (-1)))), (0, .ref hM), (1, .int (iI x1))] (by decide) rfl ?_
          refine V_aload_n hc dX5_makeList_116 5 rfl ?_
          refine V_get (C := RX5) (T := TX5) (N := 21) hc i_X5_makeList_5 0 rfl rfl 14 (by decide) m_X5_makeList_35 rfl dX5_makeList_117 ?_
          refine V_iload_n hc dX5_makeList_120 4 rfl ?_
          refine V_iload hc dX5_makeList_121 1 rfl ?_
          refine V_iconst hc dX5_makeList_123 ?_
          refine V_iadd hc dX5_makeList_124 ?_
          refine V_iast hc 9 rfl (by decide) hv dX5_makeList_125 [oB hM 5 [.ref zA, .ref spA, .ref svA, .int (iI nsv), .ref soA, .ref ikA, .ref txA, .int (iI len), .int (iI thr), .int (iI nvi), .ref viA, .int (iI low), .int (iI high), .ref srA, .ref frA, .ref toA, .ref hoA, .ref keA, .int (iI nto), .int (iI spo), .int (iI mos)], aI t zA 646 (uI z ((486 + x3).toNat) (sr ((fr (x2 + (-1)).toNat) + (((to (x2 + (-1)).toNat) - (fr (x2 + (-1)).toNat)) / 2)).toNat)), aI t spA 646 sp, aI t svA 3876 sv, aI t soA 1292 so, aZ t ikA 2 ik, aI t txA 60 tx, aI t viA 120 vi, aI t srA 120 sr, aI t frA 122 (uI fr ((x2 + (-1)).toNat) (((fr (x2 + (-1)).toNat) + (((to (x2 + (-1)).toNat) - (fr (x2 + (-1)).toNat)) / 2)) + 1)), aI t toA 122 to, aI t hoA 31 ho, aI t keA 31 ke] rfl (fun hv => ?_)
          refine V_aload_n hc dX5_makeList_126 5 rfl ?_
          refine V_get (C := RX5) (T := TX5) (N := 21) hc i_X5_makeList_5 0 rfl rfl 15 (by decide) m_X5_makeList_38 rfl dX5_makeList_127 ?_
          refine V_iload_n hc dX5_makeList_130 4 rfl ?_
          refine V_iload hc dX5_makeList_131 2 rfl ?_
          refine V_iast hc 10 rfl (by decide) hv dX5_makeList_133 [oB hM 5 [.ref zA, .ref spA, .ref svA, .int (iI nsv), .ref soA, .ref ikA, .ref txA, .int (iI len), .int (iI thr), .int (iI nvi), .ref viA, .int (iI low), .int (iI high), .ref srA, .ref frA, .ref toA, .ref hoA, .ref keA, .int (iI nto), .int (iI spo), .int (iI mos)], aI t zA 646 (uI z ((486 + x3).toNat) (sr ((fr (x2 + (-1)).toNat) + (((to (x2 + (-1)).toNat) - (fr (x2 + (-1)).toNat)) / 2)).toNat)), aI t spA 646 sp, aI t svA 3876 sv, aI t soA 1292 so, aZ t ikA 2 ik, aI t txA 60 tx, aI t viA 120 vi, aI t srA 120 sr, aI t frA 122 (uI fr ((x2 + (-1)).toNat) (((fr (x2 + (-1)).toNat) + (((to (x2 + (-1)).toNat) - (fr (x2 + (-1)).toNat)) / 2)) + 1)), aI t toA 122 (uI to ((x2 + (-1)).toNat) (to (x2 + (-1)).toNat)), aI t hoA 31 ho, aI t keA 31 ke] rfl (fun hv => ?_)
          refine V_aload_n hc dX5_makeList_134 5 rfl ?_
          refine V_get (C := RX5) (T := TX5) (N := 21) hc i_X5_makeList_5 0 rfl rfl 14 (by decide) m_X5_makeList_35 rfl dX5_makeList_135 ?_
          refine V_iload_n hc dX5_makeList_138 4 rfl ?_
          refine V_iconst hc dX5_makeList_139 ?_
          refine V_iadd hc dX5_makeList_140 ?_
          refine V_iload hc dX5_makeList_141 3 rfl ?_
          refine V_iast hc 9 rfl (by decide) hv dX5_makeList_143 [oB hM 5 [.ref zA, .ref spA, .ref svA, .int (iI nsv), .ref soA, .ref ikA, .ref txA, .int (iI len), .int (iI thr), .int (iI nvi), .ref viA, .int (iI low), .int (iI high), .ref srA, .ref frA, .ref toA, .ref hoA, .ref keA, .int (iI nto), .int (iI spo), .int (iI mos)], aI t zA 646 (uI z ((486 + x3).toNat) (sr ((fr (x2 + (-1)).toNat) + (((to (x2 + (-1)).toNat) - (fr (x2 + (-1)).toNat)) / 2)).toNat)), aI t spA 646 sp, aI t svA 3876 sv, aI t soA 1292 so, aZ t ikA 2 ik, aI t txA 60 tx, aI t viA 120 vi, aI t srA 120 sr, aI t frA 122 (uI (uI fr ((x2 + (-1)).toNat) (((fr (x2 + (-1)).toNat) + (((to (x2 + (-1)).toNat) - (fr (x2 + (-1)).toNat)) / 2)) + 1)) (((x2 + (-1)) + 1).toNat) (fr (x2 + (-1)).toNat)), aI t toA 122 (uI to ((x2 + (-1)).toNat) (to (x2 + (-1)).toNat)), aI t hoA 31 ho, aI t keA 31 ke] rfl (fun hv => ?_)
          refine V_aload_n hc dX5_makeList_144 5 rfl ?_
          refine V_get (C := RX5) (T := TX5) (N := 21) hc i_X5_makeList_5 0 rfl rfl 15 (by decide) m_X5_makeList_38 rfl dX5_makeList_145 ?_
          refine V_iload_n hc dX5_makeList_148 4 rfl ?_
          refine V_iconst hc dX5_makeList_149 ?_
          refine V_iadd hc dX5_makeList_150 ?_
          refine V_iload hc dX5_makeList_151 1 rfl ?_
          refine V_iast hc 10 rfl (by decide) hv dX5_makeList_153 [oB hM 5 [.ref zA, .ref spA, .ref svA, .int (iI nsv), .ref soA, .ref ikA, .ref txA, .int (iI len), .int (iI thr), .int (iI nvi), .ref viA, .int (iI low), .int (iI high), .ref srA, .ref frA, .ref toA, .ref hoA, .ref keA, .int (iI nto), .int (iI spo), .int (iI mos)], aI t zA 646 (uI z ((486 + x3).toNat) (sr ((fr (x2 + (-1)).toNat) + (((to (x2 + (-1)).toNat) - (fr (x2 + (-1)).toNat)) / 2)).toNat)), aI t spA 646 sp, aI t svA 3876 sv, aI t soA 1292 so, aZ t ikA 2 ik, aI t txA 60 tx, aI t viA 120 vi, aI t srA 120 sr, aI t frA 122 (uI (uI fr ((x2 + (-1)).toNat) (((fr (x2 + (-1)).toNat) + (((to (x2 + (-1)).toNat) - (fr (x2 + (-1)).toNat)) / 2)) + 1)) (((x2 + (-1)) + 1).toNat) (fr (x2 + (-1)).toNat)), aI t toA 122 (uI (uI to ((x2 + (-1)).toNat) (to (x2 + (-1)).toNat)) (((x2 + (-1)) + 1).toNat) ((fr (x2 + (-1)).toNat) + (((to (x2 + (-1)).toNat) - (fr (x2 + (-1)).toNat)) / 2))), aI t hoA 31 ho, aI t keA 31 ke] rfl (fun hv => ?_)
          refine V_iinc hc dX5_makeList_154 4 rfl [(2, .int (iI ((x2 + (-1)) + 2))), (3, .int (iI (x3 + 1))), (6, .int (iI ((fr (x2 + (-1)).toNat) + (((to (x2 + (-1)).toNat) - (fr (x2 + (-1)).toNat)) / 2)))), (5, .int (iI (to (x2 + (-1)).toNat))), (4, .int (iI (fr (x2 + (-1)).toNat))), (0, .ref hM), (1, .int (iI x1))] (by decide) rfl ?_
          refine V_goto (tgt := 54) hc dX5_makeList_157 (by decide) ?_
          refine V_lv [5, 6, 0, 1] [(0, .ref hM), (1, .int (iI x1)), (2, .int (iI ((x2 + (-1)) + 2))), (3, .int (iI (x3 + 1)))] rfl ?_
          exact hK_54 (uI z ((486 + x3).toNat) (sr ((fr (x2 + (-1)).toNat) + (((to (x2 + (-1)).toNat) - (fr (x2 + (-1)).toNat)) / 2)).toNat)) (uI (uI fr ((x2 + (-1)).toNat) (((fr (x2 + (-1)).toNat) + (((to (x2 + (-1)).toNat) - (fr (x2 + (-1)).toNat)) / 2)) + 1)) (((x2 + (-1)) + 1).toNat) (fr (x2 + (-1)).toNat)) (uI (uI to ((x2 + (-1)).toNat) (to (x2 + (-1)).toNat)) (((x2 + (-1)) + 1).toNat) ((fr (x2 + (-1)).toNat) + (((to (x2 + (-1)).toNat) - (fr (x2 + (-1)).toNat)) / 2))) ((x2 + (-1)) + 2) (x3 + 1) hv
  have L_4 : ∀ (z : Nat → Int) (fr : Nat → Int) (to : Nat → Int) (n9 : Nat) (sr : Nat → Int) (x1 : Int) (x2 : Int), lq3 (wp_X5_makeList_4 z fr to Q) n9 sr x1 x2 → V p l e rm_X5_makeList s m args below meth c D A 7 0 0 (MQ below (QV D A (W1_X5_makeList t hM zA spA svA soA ikA txA viA srA frA toA hoA keA nsv len thr nvi low high nto spo mos sp sv so ik tx vi ho ke) (po_X5_makeList Q)) args s 0 0 A) 4 [(0, .ref hM), (1, .int (iI x1)), (2, .int (iI x2))] [] [oB hM 5 [.ref zA, .ref spA, .ref svA, .int (iI nsv), .ref soA, .ref ikA, .ref txA, .int (iI len), .int (iI thr), .int (iI nvi), .ref viA, .int (iI low), .int (iI high), .ref srA, .ref frA, .ref toA, .ref hoA, .ref keA, .int (iI nto), .int (iI spo), .int (iI mos)], aI t zA 646 z, aI t spA 646 sp, aI t svA 3876 sv, aI t soA 1292 so, aZ t ikA 2 ik, aI t txA 60 tx, aI t viA 120 vi, aI t srA 120 sr, aI t frA 122 fr, aI t toA 122 to, aI t hoA 31 ho, aI t keA 31 ke] := by
    intro z fr to n9
    induction n9 with
    | zero =>
      intro sr x1 x2 hv
      exact hv.elim
    | succ n9 ih =>
      intro sr x1 x2 hv
      have hv : wp_X5_makeList_4 z fr to Q (lq3 (wp_X5_makeList_4 z fr to Q) n9) sr x1 x2 := hv
      generalize lq3 (wp_X5_makeList_4 z fr to Q) n9 = K_4 at hv ih
      have hK_4 := ih
      unfold wp_X5_makeList_4 at hv
      refine V_iload_n hc dX5_makeList_4 2 rfl ?_
      refine V_sipush hc dX5_makeList_5 (by decide) ?_
      refine V_icmp_ge (tgt := 36) hc dX5_makeList_8 (by decide) ⟨hv.1, by decide, hv.2⟩ (fun hv => ?_) (fun hv => ?_)
      · refine V_iconst hc dX5_makeList_36 ?_
        refine V_istore_n hc dX5_makeList_37 [(2, .int (iI 1)), (0, .ref hM), (1, .int (iI x1))] (by decide) rfl ?_
        refine V_aload_n hc dX5_makeList_38 1 rfl ?_
        refine V_get (C := RX5) (T := TX5) (N := 21) hc i_X5_makeList_5 0 rfl rfl 14 (by decide) m_X5_makeList_35 rfl dX5_makeList_39 ?_
        refine V_iconst hc dX5_makeList_42 ?_
        refine V_iconst hc dX5_makeList_43 ?_
        refine V_iast hc 9 rfl (by decide) ⟨by decide, hv⟩ dX5_makeList_44 [oB hM 5 [.ref zA, .ref spA, .ref svA, .int (iI nsv), .ref soA, .ref ikA, .ref txA, .int (iI len), .int (iI thr), .int (iI nvi), .ref viA, .int (iI low), .int (iI high), .ref srA, .ref frA, .ref toA, .ref hoA, .ref keA, .int (iI nto), .int (iI spo), .int (iI mos)], aI t zA 646 z, aI t spA 646 sp, aI t svA 3876 sv, aI t soA 1292 so, aZ t ikA 2 ik, aI t txA 60 tx, aI t viA 120 vi, aI t srA 120 sr, aI t frA 122 (uI fr 0 0), aI t toA 122 to, aI t hoA 31 ho, aI t keA 31 ke] rfl (fun hv => ?_)
        refine V_aload_n hc dX5_makeList_45 1 rfl ?_
        refine V_get (C := RX5) (T := TX5) (N := 21) hc i_X5_makeList_5 0 rfl rfl 15 (by decide) m_X5_makeList_38 rfl dX5_makeList_46 ?_
        refine V_iconst hc dX5_makeList_49 ?_
        refine V_iload_n hc dX5_makeList_50 2 rfl ?_
        refine V_iast hc 10 rfl (by decide) ⟨by decide, hv⟩ dX5_makeList_51 [oB hM 5 [.ref zA, .ref spA, .ref svA, .int (iI nsv), .ref soA, .ref ikA, .ref txA, .int (iI len), .int (iI thr), .int (iI nvi), .ref viA, .int (iI low), .int (iI high), .ref srA, .ref frA, .ref toA, .ref hoA, .ref keA, .int (iI nto), .int (iI spo), .int (iI mos)], aI t zA 646 z, aI t spA 646 sp, aI t svA 3876 sv, aI t soA 1292 so, aZ t ikA 2 ik, aI t txA 60 tx, aI t viA 120 vi, aI t srA 120 sr, aI t frA 122 (uI fr 0 0), aI t toA 122 (uI to 0 x1), aI t hoA 31 ho, aI t keA 31 ke] rfl (fun hv => ?_)
        refine V_iconst hc dX5_makeList_52 ?_
        refine V_istore_n hc dX5_makeList_53 [(3, .int (iI 0)), (2, .int (iI 1)), (0, .ref hM), (1, .int (iI x1))] (by decide) rfl ?_
        refine V_lv [2, 3, 1, 0] [(0, .ref hM), (1, .int (iI x1)), (2, .int (iI 1)), (3, .int (iI 0))] rfl ?_
        obtain ⟨n9, hv⟩ := hv
        exact L_54 sr x1 n9 z (uI fr 0 0) (uI to 0 x1) 1 0 hv
      · refine V_aload_n hc dX5_makeList_11 0 rfl ?_
        refine V_iconst hc dX5_makeList_12 ?_
        refine V_iload_n hc dX5_makeList_13 2 rfl ?_
        refine V_callVI (As := [.int (iI 0), .int (iI x2)]) hc (wc := [oB hM 5 [.ref zA, .ref spA, .ref svA, .int (iI nsv), .ref soA, .ref ikA, .ref txA, .int (iI len), .int (iI thr), .int (iI nvi), .ref viA, .int (iI low), .int (iI high), .ref srA, .ref frA, .ref toA, .ref hoA, .ref keA, .int (iI nto), .int (iI spo), .int (iI mos)], aI t zA 646 z, aI t spA 646 sp, aI t svA 3876 sv, aI t soA 1292 so, aZ t ikA 2 ik, aI t txA 60 tx, aI t viA 120 vi, aI t srA 120 sr, aI t frA 122 fr, aI t toA 122 to, aI t hoA 31 ho, aI t keA 31 ke]) (wr := []) (pmI (ws := [oB hM 5 [.ref zA, .ref spA, .ref svA, .int (iI nsv), .ref soA, .ref ikA, .ref txA, .int (iI len), .int (iI thr), .int (iI nvi), .ref viA, .int (iI low), .int (iI high), .ref srA, .ref frA, .ref toA, .ref hoA, .ref keA, .int (iI nto), .int (iI spo), .int (iI mos)], aI t zA 646 z, aI t spA 646 sp, aI t svA 3876 sv, aI t soA 1292 so, aZ t ikA 2 ik, aI t txA 60 tx, aI t viA 120 vi, aI t srA 120 sr, aI t frA 122 fr, aI t toA 122 to, aI t hoA 31 ho, aI t keA 31 ke]) (ws1 := [oB hM 5 [.ref zA, .ref spA, .ref svA, .int (iI nsv), .ref soA, .ref ikA, .ref txA, .int (iI len), .int (iI thr), .int (iI nvi), .ref viA, .int (iI low), .int (iI high), .ref srA, .ref frA, .ref toA, .ref hoA, .ref keA, .int (iI nto), .int (iI spo), .int (iI mos)], aI t zA 646 z, aI t spA 646 sp, aI t svA 3876 sv, aI t soA 1292 so, aZ t ikA 2 ik, aI t txA 60 tx, aI t viA 120 vi, aI t srA 120 sr, aI t frA 122 fr, aI t toA 122 to, aI t hoA 31 ho, aI t keA 31 ke] ++ []) [0, 1, 2, 3, 4, 5, 6, 7, 8, 9, 10, 11, 12] 13 rfl (by decide +kernel) rfl) rfl rfl (met_X5_isPresent l D t hM zA spA svA soA ikA txA viA srA frA toA hoA keA nsv len thr nvi low high nto spo mos z sp sv so ik tx vi sr fr to ho ke 0 x2 _ hv) rfl gX5_makeList_X5_isPresent rfl ⟨rfl, rfl⟩ ok_X5_isPresent (by decide) (Nat.le_of_ble_eq_true rfl) dX5_makeList_14 (by decide) (fun r_1 _ hv => ?_)
        try dsimp only at hv
        refine V_perm (ws1 := [oB hM 5 [.ref zA, .ref spA, .ref svA, .int (iI nsv), .ref soA, .ref ikA, .ref txA, .int (iI len), .int (iI thr), .int (iI nvi), .ref viA, .int (iI low), .int (iI high), .ref srA, .ref frA, .ref toA, .ref hoA, .ref keA, .int (iI nto), .int (iI spo), .int (iI mos)], aI t zA 646 z, aI t spA 646 sp, aI t svA 3876 sv, aI t soA 1292 so, aZ t ikA 2 ik, aI t txA 60 tx, aI t viA 120 vi, aI t srA 120 sr, aI t frA 122 fr, aI t toA 122 to, aI t hoA 31 ho, aI t keA 31 ke]) (pmI (ws := [oB hM 5 [.ref zA, .ref spA, .ref svA, .int (iI nsv), .ref soA, .ref ikA, .ref txA, .int (iI len), .int (iI thr), .int (iI nvi), .ref viA, .int (iI low), .int (iI high), .ref srA, .ref frA, .ref toA, .ref hoA, .ref keA, .int (iI nto), .int (iI spo), .int (iI mos)], aI t zA 646 z, aI t spA 646 sp, aI t svA 3876 sv, aI t soA 1292 so, aZ t ikA 2 ik, aI t txA 60 tx, aI t viA 120 vi, aI t srA 120 sr, aI t frA 122 fr, aI t toA 122 to, aI t hoA 31 ho, aI t keA 31 ke] ++ []) (ws1 := [oB hM 5 [.ref zA, .ref spA, .ref svA, .int (iI nsv), .ref soA, .ref ikA, .ref txA, .int (iI len), .int (iI thr), .int (iI nvi), .ref viA, .int (iI low), .int (iI high), .ref srA, .ref frA, .ref toA, .ref hoA, .ref keA, .int (iI nto), .int (iI spo), .int (iI mos)], aI t zA 646 z, aI t spA 646 sp, aI t svA 3876 sv, aI t soA 1292 so, aZ t ikA 2 ik, aI t txA 60 tx, aI t viA 120 vi, aI t srA 120 sr, aI t frA 122 fr, aI t toA 122 to, aI t hoA 31 ho, aI t keA 31 ke]) [0, 1, 2, 3, 4, 5, 6, 7, 8, 9, 10, 11, 12] 13 rfl (by decide +kernel) rfl) ?_
        refine V_if_eq (tgt := 30) hc dX5_makeList_17 (by decide) hv (fun hv => ?_) (fun hv => ?_)
        · refine V_iinc hc dX5_makeList_30 2 rfl [(2, .int (iI (x2 + 1))), (0, .ref hM), (1, .int (iI x1))] (by decide) rfl ?_
          refine V_goto (tgt := 4) hc dX5_makeList_33 (by decide) ?_
          refine V_lv [1, 2, 0] [(0, .ref hM), (1, .int (iI x1)), (2, .int (iI (x2 + 1)))] rfl ?_
          exact hK_4 sr x1 (x2 + 1) hv
        · refine V_aload_n hc dX5_makeList_20 0 rfl ?_
          refine V_get (C := RX5) (T := TX5) (N := 21) hc i_X5_makeList_5 0 rfl rfl 13 (by decide) m_X5_makeList_32 rfl dX5_makeList_21 ?_
          refine V_iload_n hc dX5_makeList_24 1 rfl ?_
          refine V_iload_n hc dX5_makeList_25 2 rfl ?_
          refine V_iast hc 8 rfl (by decide) hv dX5_makeList_26 [oB hM 5 [.ref zA, .ref spA, .ref svA, .int (iI nsv), .ref soA, .ref ikA, .ref txA, .int (iI len), .int (iI thr), .int (iI nvi), .ref viA, .int (iI low), .int (iI high), .ref srA, .ref frA, .ref toA, .ref hoA, .ref keA, .int (iI nto), .int (iI spo), .int (iI mos)], aI t zA 646 z, aI t spA 646 sp, aI t svA 3876 sv, aI t soA 1292 so, aZ t ikA 2 ik, aI t txA 60 tx, aI t viA 120 vi, aI t srA 120 (uI sr (x1.toNat) x2), aI t frA 122 fr, aI t toA 122 to, aI t hoA 31 ho, aI t keA 31 ke] rfl (fun hv => ?_)
          refine V_iinc hc dX5_makeList_27 1 rfl [(1, .int (iI (x1 + 1))), (0, .ref hM), (2, .int (iI x2))] (by decide) rfl ?_
          refine V_iinc hc dX5_makeList_30 2 rfl [(2, .int (iI (x2 + 1))), (1, .int (iI (x1 + 1))), (0, .ref hM)] (by decide) rfl ?_
          refine V_goto (tgt := 4) hc dX5_makeList_33 (by decide) ?_
          refine V_lv [2, 1, 0] [(0, .ref hM), (1, .int (iI (x1 + 1))), (2, .int (iI (x2 + 1)))] rfl ?_
          exact hK_4 (uI sr (x1.toNat) x2) (x1 + 1) (x2 + 1) hv
  refine V_lv [0] [(0, .ref hM)] rfl ?_
  unfold wp_X5_makeList at hv
  refine V_iconst hc dX5_makeList_0 ?_
  refine V_istore_n hc dX5_makeList_1 [(1, .int (iI 0)), (0, .ref hM)] (by decide) rfl ?_
  refine V_iconst hc dX5_makeList_2 ?_
  refine V_istore_n hc dX5_makeList_3 [(2, .int (iI 0)), (1, .int (iI 0)), (0, .ref hM)] (by decide) rfl ?_
  refine V_lv [2, 1, 0] [(0, .ref hM), (1, .int (iI 0)), (2, .int (iI 0))] rfl ?_
  obtain ⟨n9, hv⟩ := hv
  exact L_4 z fr to n9 sr 0 0 hv
abbrev W1_X5_beginNow (t : Nat → ClassId) (hM : Nat) (zA : Nat) (spA : Nat) (svA : Nat) (soA : Nat) (ikA : Nat) (txA : Nat) (viA : Nat) (srA : Nat) (frA : Nat) (toA : Nat) (hoA : Nat) (keA : Nat) (nsv : Int) (len : Int) (thr : Int) (nvi : Int) (low : Int) (high : Int) (nto : Int) (spo : Int) (mos : Int) (sp : Nat → Int) (sv : Nat → Int) (so : Nat → Int) (ik : Nat → Int) (tx : Nat → Int) (vi : Nat → Int) (ho : Nat → Int) (ke : Nat → Int) (u : (Nat → Int) × (Nat → Int) × (Nat → Int) × (Nat → Int)) : va_W := [oB hM 5 [.ref zA, .ref spA, .ref svA, .int (iI nsv), .ref soA, .ref ikA, .ref txA, .int (iI len), .int (iI thr), .int (iI nvi), .ref viA, .int (iI low), .int (iI high), .ref srA, .ref frA, .ref toA, .ref hoA, .ref keA, .int (iI nto), .int (iI spo), .int (iI mos)], aI t zA 646 u.1, aI t spA 646 sp, aI t svA 3876 sv, aI t soA 1292 so, aZ t ikA 2 ik, aI t txA 60 tx, aI t viA 120 vi, aI t srA 120 u.2.1, aI t frA 122 u.2.2.1, aI t toA 122 u.2.2.2, aI t hoA 31 ho, aI t keA 31 ke]
abbrev po_X5_beginNow (Q : (Nat → Int) → (Nat → Int) → (Nat → Int) → (Nat → Int) → Prop) (u : (Nat → Int) × (Nat → Int) × (Nat → Int) × (Nat → Int)) : Prop := Q u.1 u.2.1 u.2.2.1 u.2.2.2
abbrev rm_X5_beginNow : Room := { frames := 3, cells := 0, slots := 0, locals := 73 }
def wp_X5_beginNow (z : Nat → Int) (sr : Nat → Int) (fr : Nat → Int) (to : Nat → Int) (Q : (Nat → Int) → (Nat → Int) → (Nat → Int) → (Nat → Int) → Prop) : Prop := wp_X5_makeList z sr fr to (fun z_1 sr_1 fr_1 to_1 => Q (uI (uI (uI (uI (uI z_1 482 1) 484 0) 485 0) 241 0) 643 (((uI (uI (uI (uI z_1 482 1) 484 0) 485 0) 241 0) 643) + 1)) sr_1 fr_1 to_1)
theorem m_X5_beginNow_7 : Cond.fieldLink RX5 7 "BackgroundRebuildModel" "z" "[I" ∈ wsX5_beginNow := by decide +kernel
theorem i_X5_beginNow_5 : ∀ w ∈ u_ws RX5 TX5 21, w ∈ wsX5_beginNow := by decide +kernel
theorem ok_X5_beginNow : yX5_beginNow.cls = RX5 ∧ yX5_beginNow.cls ≠ "java/lang/invoke/MethodHandle" ∧ yX5_beginNow.cls ≠ "java/lang/invoke/VarHandle" ∧ (parseMethodDescriptor yX5_beginNow.desc).map (fun d => d.parameters.length) = some 0 := by decide +kernel
set_option maxHeartbeats 4000000 in
set_option maxRecDepth 100000 in
theorem met_X5_beginNow (l : Launch) (D : va_G) (t : Nat → ClassId) (hM : Nat) (zA : Nat) (spA : Nat) (svA : Nat) (soA : Nat) (ikA : Nat) (txA : Nat) (viA : Nat) (srA : Nat) (frA : Nat) (toA : Nat) (hoA : Nat) (keA : Nat) (nsv : Int) (len : Int) (thr : Int) (nvi : Int) (low : Int) (high : Int) (nto : Int) (spo : Int) (mos : Int) (z : Nat → Int) (sp : Nat → Int) (sv : Nat → Int) (so : Nat → Int) (ik : Nat → Int) (tx : Nat → Int) (vi : Nat → Int) (sr : Nat → Int) (fr : Nat → Int) (to : Nat → Int) (ho : Nat → Int) (ke : Nat → Int) (Q : (Nat → Int) → (Nat → Int) → (Nat → Int) → (Nat → Int) → Prop) (hv : wp_X5_beginNow z sr fr to Q) : MV l D t yX5_beginNow wsX5_beginNow rm_X5_beginNow [.ref hM] [oB hM 5 [.ref zA, .ref spA, .ref svA, .int (iI nsv), .ref soA, .ref ikA, .ref txA, .int (iI len), .int (iI thr), .int (iI nvi), .ref viA, .int (iI low), .int (iI high), .ref srA, .ref frA, .ref toA, .ref hoA, .ref keA, .int (iI nto), .int (iI spo), .int (iI mos)], aI t zA 646 z, aI t spA 646 sp, aI t svA 3876 sv, aI t soA 1292 so, aZ t ikA 2 ik, aI t txA 60 tx, aI t viA 120 vi, aI t srA 120 sr, aI t frA 122 fr, aI t toA 122 to, aI t hoA 31 ho, aI t keA 31 ke] (W1_X5_beginNow t hM zA spA svA soA ikA txA viA srA frA toA hoA keA nsv len thr nvi low high nto spo mos sp sv so ik tx vi ho ke) (po_X5_beginNow Q) 0 0 := by
  refine M_ofv (cc := cX5_beginNow) (nL := 1) (by decide) rfl (Nat.le_of_ble_eq_true rfl) ?_
  intro p e s m args below meth c A hc hr
  refine V_lv [0] [(0, .ref hM)] rfl ?_
  unfold wp_X5_beginNow at hv
  refine V_aload_n hc dX5_beginNow_0 0 rfl ?_
  refine V_callVV (As := []) hc (wc := [oB hM 5 [.ref zA, .ref spA, .ref svA, .int (iI nsv), .ref soA, .ref ikA, .ref txA, .int (iI len), .int (iI thr), .int (iI nvi), .ref viA, .int (iI low), .int (iI high), .ref srA, .ref frA, .ref toA, .ref hoA, .ref keA, .int (iI nto), .int (iI spo), .int (iI mos)], aI t zA 646 z, aI t spA 646 sp, aI t svA 3876 sv, aI t soA 1292 so, aZ t ikA 2 ik, aI t txA 60 tx, aI t viA 120 vi, aI t srA 120 sr, aI t frA 122 fr, aI t toA 122 to, aI t hoA 31 ho, aI t keA 31 ke]) (wr := []) (pmI (ws := [oB hM 5 [.ref zA, .ref spA, .ref svA, .int (iI nsv), .ref soA, .ref ikA, .ref txA, .int (iI len), .int (iI thr), .int (iI nvi), .ref viA, .int (iI low), .int (iI high), .ref srA, .ref frA, .ref toA, .ref hoA, .ref keA, .int (iI nto), .int (iI spo), .int (iI mos)], aI t zA 646 z, aI t spA 646 sp, aI t svA 3876 sv, aI t soA 1292 so, aZ t ikA 2 ik, aI t txA 60 tx, aI t viA 120 vi, aI t srA 120 sr, aI t frA 122 fr, aI t toA 122 to, aI t hoA 31 ho, aI t keA 31 ke]) (ws1 := [oB hM 5 [.ref zA, .ref spA, .ref svA, .int (iI nsv), .ref soA, .ref ikA, .ref txA, .int (iI len), .int (iI thr), .int (iI nvi), .ref viA, .int (iI low), .int (iI high), .ref srA, .ref frA, .ref toA, .ref hoA, .ref keA, .int (iI nto), .int (iI spo), .int (iI mos)], aI t zA 646 z, aI t spA 646 sp, aI t svA 3876 sv, aI t soA 1292 so, aZ t ikA 2 ik, aI t txA 60 tx, aI t viA 120 vi, aI t srA 120 sr, aI t frA 122 fr, aI t toA 122 to, aI t hoA 31 ho, aI t keA 31 ke] ++ []) [0, 1, 2, 3, 4, 5, 6, 7, 8, 9, 10, 11, 12] 13 rfl (by decide +kernel) rfl) rfl rfl (met_X5_makeList l D t hM zA spA svA soA ikA txA viA srA frA toA hoA keA nsv len thr nvi low high nto spo mos z sp sv so ik tx vi sr fr to ho ke _ hv) rfl gX5_beginNow_X5_makeList rfl ⟨rfl, rfl⟩ ok_X5_makeList (by decide) (Nat.le_of_ble_eq_true rfl) dX5_beginNow_1 (by decide) (fun u9 hv => ?_)
  obtain ⟨z_1, sr_1, fr_1, to_1⟩ := u9
  try dsimp only at hv
  refine V_perm (ws1 := [oB hM 5 [.ref zA, .ref spA, .ref svA, .int (iI nsv), .ref soA, .ref ikA, .ref txA, .int (iI len), .int (iI thr), .int (iI nvi), .ref viA, .int (iI low), .int (iI high), .ref srA, .ref frA, .ref toA, .ref hoA, .ref keA, .int (iI nto), .int (iI spo), .int (iI mos)], aI t zA 646 z_1, aI t spA 646 sp, aI t svA 3876 sv, aI t soA 1292 so, aZ t ikA 2 ik, aI t txA 60 tx, aI t viA 120 vi, aI t srA 120 sr_1, aI t frA 122 fr_1, aI t toA 122 to_1, aI t hoA 31 ho, aI t keA 31 ke]) (pmI (ws := [oB hM 5 [.ref zA, .ref spA, .ref svA, .int (iI nsv), .ref soA, .ref ikA, .ref txA, .int (iI len), .int (iI thr), .int (iI nvi), .ref viA, .int (iI low), .int (iI high), .ref srA, .ref frA, .ref toA, .ref hoA, .ref keA, .int (iI nto), .int (iI spo), .int (iI mos)], aI t zA 646 z_1, aI t spA 646 sp, aI t svA 3876 sv, aI t soA 1292 so, aZ t ikA 2 ik, aI t txA 60 tx, aI t viA 120 vi, aI t srA 120 sr_1, aI t frA 122 fr_1, aI t toA 122 to_1, aI t hoA 31 ho, aI t keA 31 ke] ++ []) (ws1 := [oB hM 5 [.ref zA, .ref spA, .ref svA, .int (iI nsv), .ref soA, .ref ikA, .ref txA, .int (iI len), .int (iI thr), .int (iI nvi), .ref viA, .int (iI low), .int (iI high), .ref srA, .ref frA, .ref toA, .ref hoA, .ref keA, .int (iI nto), .int (iI spo), .int (iI mos)], aI t zA 646 z_1, aI t spA 646 sp, aI t svA 3876 sv, aI t soA 1292 so, aZ t ikA 2 ik, aI t txA 60 tx, aI t viA 120 vi, aI t srA 120 sr_1, aI t frA 122 fr_1, aI t toA 122 to_1, aI t hoA 31 ho, aI t keA 31 ke]) [0, 1, 2, 3, 4, 5, 6, 7, 8, 9, 10, 11, 12] 13 rfl (by decide +kernel) rfl) ?_
  refine V_aload_n hc dX5_beginNow_4 0 rfl ?_
  refine V_get (C := RX5) (T := TX5) (N := 21) hc i_X5_beginNow_5 0 rfl rfl 0 (by decide) m_X5_beginNow_7 rfl dX5_beginNow_5 ?_
  refine V_sipush hc dX5_beginNow_8 (by decide) ?_
  refine V_iconst hc dX5_beginNow_11 ?_
  refine V_iast hc 1 rfl (by decide) ⟨by decide, hv⟩ dX5_beginNow_12 [oB hM 5 [.ref zA, .ref spA, .ref svA, .int (iI nsv), .ref soA, .ref ikA, .ref txA, .int (iI len), .int (iI thr), .int (iI nvi), .ref viA, .int (iI low), .int (iI high), .ref srA, .ref frA, .ref toA, .ref hoA, .ref keA, .int (iI nto), .int (iI spo), .int (iI mos)], aI t zA 646 (uI z_1 482 1), aI t spA 646 sp, aI t svA 3876 sv, aI t soA 1292 so, aZ t ikA 2 ik, aI t txA 60 tx, aI t viA 120 vi, aI t srA 120 sr_1, aI t frA 122 fr_1, aI t toA 122 to_1, aI t hoA 31 ho, aI t keA 31 ke] rfl (fun hv => ?_)
  refine V_aload_n hc dX5_beginNow_13 0 rfl ?_
  refine V_get (C := RX5) (T := TX5) (N := 21) hc i_X5_beginNow_5 0 rfl rfl 0 (by decide) m_X5_beginNow_7 rfl dX5_beginNow_14 ?_
  refine V_sipush hc dX5_beginNow_17 (by decide) ?_
  refine V_iconst hc dX5_beginNow_20 ?_
  refine V_iast hc 1 rfl (by decide) ⟨by decide, hv⟩ dX5_beginNow_21 [oB hM 5 [.ref zA, .ref spA, .ref svA, .int (iI nsv), .ref soA, .ref ikA, .ref txA, .int (iI len), .int (iI thr), .int (iI nvi), .ref viA, .int (iI low), .int (iI high), .ref srA, .ref frA, .ref toA, .ref hoA, .ref keA, .int (iI nto), .int (iI spo), .int (iI mos)], aI t zA 646 (uI (uI z_1 482 1) 484 0), aI t spA 646 sp, aI t svA 3876 sv, aI t soA 1292 so, aZ t ikA 2 ik, aI t txA 60 tx, aI t viA 120 vi, aI t srA 120 sr_1, aI t frA 122 fr_1, aI t toA 122 to_1, aI t hoA 31 ho, aI t keA 31 ke] rfl (fun hv => ?_)
  refine V_aload_n hc dX5_beginNow_22 0 rfl ?_
  refine V_get (C := RX5) (T := TX5) (N := 21) hc i_X5_beginNow_5 0 rfl rfl 0 (by decide) m_X5_beginNow_7 rfl dX5_beginNow_23 ?_
  refine V_sipush hc dX5_beginNow_26 (by decide) ?_
  refine V_iconst hc dX5_beginNow_29 ?_
  refine V_iast hc 1 rfl (by decide) ⟨by decide, hv⟩ dX5_beginNow_30 [oB hM 5 [.ref zA, .ref spA, .ref svA, .int (iI nsv), .ref soA, .ref ikA, .ref txA, .int (iI len), .int (iI thr), .int (iI nvi), .ref viA, .int (iI low), .int (iI high), .ref srA, .ref frA, .ref toA, .ref hoA, .ref keA, .int (iI nto), .int (iI spo), .int (iI mos)], aI t zA 646 (uI (uI (uI z_1 482 1) 484 0) 485 0), aI t spA 646 sp, aI t svA 3876 sv, aI t soA 1292 so, aZ t ikA 2 ik, aI t txA 60 tx, aI t viA 120 vi, aI t srA 120 sr_1, aI t frA 122 fr_1, aI t toA 122 to_1, aI t hoA 31 ho, aI t keA 31 ke] rfl (fun hv => ?_)
  refine V_aload_n hc dX5_beginNow_31 0 rfl ?_
  refine V_get (C := RX5) (T := TX5) (N := 21) hc i_X5_beginNow_5 0 rfl rfl 0 (by decide) m_X5_beginNow_7 rfl dX5_beginNow_32 ?_
  refine V_sipush hc dX5_beginNow_35 (by decide) ?_
  refine V_iconst hc dX5_beginNow_38 ?_
  refine V_iast hc 1 rfl (by decide) ⟨by decide, hv⟩ dX5_beginNow_39 [oB hM 5 [.ref zA, .ref spA, .ref svA, .int (iI nsv), .ref soA, .ref ikA, .ref txA, .int (iI len), .int (iI thr), .int (iI nvi), .ref viA, .int (iI low), .int (iI high), .ref srA, .ref frA, .ref toA, .ref hoA, .ref keA, .int (iI nto), .int (iI spo), .int (iI mos)], aI t zA 646 (uI (uI (uI (uI z_1 482 1) 484 0) 485 0) 241 0), aI t spA 646 sp, aI t svA 3876 sv, aI t soA 1292 so, aZ t ikA 2 ik, aI t txA 60 tx, aI t viA 120 vi, aI t srA 120 sr_1, aI t frA 122 fr_1, aI t toA 122 to_1, aI t hoA 31 ho, aI t keA 31 ke] rfl (fun hv => ?_)
  refine V_aload_n hc dX5_beginNow_40 0 rfl ?_
  refine V_get (C := RX5) (T := TX5) (N := 21) hc i_X5_beginNow_5 0 rfl rfl 0 (by decide) m_X5_beginNow_7 rfl dX5_beginNow_41 ?_
  refine V_sipush hc dX5_beginNow_44 (by decide) ?_
  refine V_dup2 hc dX5_beginNow_47 rfl rfl ?_
  refine V_iald hc 1 rfl (by decide) ⟨by decide, hv⟩ dX5_beginNow_48 (fun hv => ?_)
  refine V_iconst hc dX5_beginNow_49 ?_
  refine V_iadd hc dX5_beginNow_50 ?_
  refine V_iast hc 1 rfl (by decide) ⟨by decide, hv⟩ dX5_beginNow_51 [oB hM 5 [.ref zA, .ref spA, .ref svA, .int (iI nsv), .ref soA, .ref ikA, .ref txA, .int (iI len), .int (iI thr), .int (iI nvi), .ref viA, .int (iI low), .int (iI high), .ref srA, .ref frA, .ref toA, .ref hoA, .ref keA, .int (iI nto), .int (iI spo), .int (iI mos)], aI t zA 646 (uI (uI (uI (uI (uI z_1 482 1) 484 0) 485 0) 241 0) 643 (((uI (uI (uI (uI z_1 482 1) 484 0) 485 0) 241 0) 643) + 1)), aI t spA 646 sp, aI t svA 3876 sv, aI t soA 1292 so, aZ t ikA 2 ik, aI t txA 60 tx, aI t viA 120 vi, aI t srA 120 sr_1, aI t frA 122 fr_1, aI t toA 122 to_1, aI t hoA 31 ho, aI t keA 31 ke] rfl (fun hv => ?_)
  exact V_vret hc hr (uI (uI (uI (uI (uI z_1 482 1) 484 0) 485 0) 241 0) 643 (((uI (uI (uI (uI z_1 482 1) 484 0) 485 0) 241 0) 643) + 1), sr_1, fr_1, to_1) hv rfl dX5_beginNow_52
abbrev W1_X5_endNow (t : Nat → ClassId) (hM : Nat) (zA : Nat) (spA : Nat) (svA : Nat) (soA : Nat) (ikA : Nat) (txA : Nat) (viA : Nat) (srA : Nat) (frA : Nat) (toA : Nat) (hoA : Nat) (keA : Nat) (nsv : Int) (len : Int) (thr : Int) (nvi : Int) (low : Int) (high : Int) (nto : Int) (spo : Int) (mos : Int) (sp : Nat → Int) (sv : Nat → Int) (so : Nat → Int) (ik : Nat → Int) (tx : Nat → Int) (vi : Nat → Int) (sr : Nat → Int) (fr : Nat → Int) (to : Nat → Int) (ho : Nat → Int) (ke : Nat → Int) (u : (Nat → Int)) : va_W := [oB hM 5 [.ref zA, .ref spA, .ref svA, .int (iI nsv), .ref soA, .ref ikA, .ref txA, .int (iI len), .int (iI thr), .int (iI nvi), .ref viA, .int (iI low), .int (iI high), .ref srA, .ref frA, .ref toA, .ref hoA, .ref keA, .int (iI nto), .int (iI spo), .int (iI mos)], aI t zA 646 u, aI t spA 646 sp, aI t svA 3876 sv, aI t soA 1292 so, aZ t ikA 2 ik, aI t txA 60 tx, aI t viA 120 vi, aI t srA 120 sr, aI t frA 122 fr, aI t toA 122 to, aI t hoA 31 ho, aI t keA 31 ke]
abbrev po_X5_endNow (Q : (Nat → Int) → Prop) (u : (Nat → Int)) : Prop := Q u
abbrev rm_X5_endNow : Room := { frames := 0, cells := 0, slots := 0, locals := 0 }
def wp_X5_endNow (z : Nat → Int) (Q : (Nat → Int) → Prop) : Prop := Q (uI (uI (uI (uI (uI z 482 0) 483 0) 484 0) 485 0) 241 0)
theorem m_X5_endNow_7 : Cond.fieldLink RX5 7 "BackgroundRebuildModel" "z" "[I" ∈ wsX5_endNow := by decide +kernel
theorem i_X5_endNow_5 : ∀ w ∈ u_ws RX5 TX5 21, w ∈ wsX5_endNow := by decide +kernel
theorem ok_X5_endNow : yX5_endNow.cls = RX5 ∧ yX5_endNow.cls ≠ "java/lang/invoke/MethodHandle" ∧ yX5_endNow.cls ≠ "java/lang/invoke/VarHandle" ∧ (parseMethodDescriptor yX5_endNow.desc).map (fun d => d.parameters.length) = some 0 := by decide +kernel
set_option maxHeartbeats 4000000 in
set_option maxRecDepth 100000 in
theorem met_X5_endNow (l : Launch) (D : va_G) (t : Nat → ClassId) (hM : Nat) (zA : Nat) (spA : Nat) (svA : Nat) (soA : Nat) (ikA : Nat) (txA : Nat) (viA : Nat) (srA : Nat) (frA : Nat) (toA : Nat) (hoA : Nat) (keA : Nat) (nsv : Int) (len : Int) (thr : Int) (nvi : Int) (low : Int) (high : Int) (nto : Int) (spo : Int) (mos : Int) (z : Nat → Int) (sp : Nat → Int) (sv : Nat → Int) (so : Nat → Int) (ik : Nat → Int) (tx : Nat → Int) (vi : Nat → Int) (sr : Nat → Int) (fr : Nat → Int) (to : Nat → Int) (ho : Nat → Int) (ke : Nat → Int) (Q : (Nat → Int) → Prop) (hv : wp_X5_endNow z Q) : MV l D t yX5_endNow wsX5_endNow rm_X5_endNow [.ref hM] [oB hM 5 [.ref zA, .ref spA, .ref svA, .int (iI nsv), .ref soA, .ref ikA, .ref txA, .int (iI len), .int (iI thr), .int (iI nvi), .ref viA, .int (iI low), .int (iI high), .ref srA, .ref frA, .ref toA, .ref hoA, .ref keA, .int (iI nto), .int (iI spo), .int (iI mos)], aI t zA 646 z, aI t spA 646 sp, aI t svA 3876 sv, aI t soA 1292 so, aZ t ikA 2 ik, aI t txA 60 tx, aI t viA 120 vi, aI t srA 120 sr, aI t frA 122 fr, aI t toA 122 to, aI t hoA 31 ho, aI t keA 31 ke] (W1_X5_endNow t hM zA spA svA soA ikA txA viA srA frA toA hoA keA nsv len thr nvi low high nto spo mos sp sv so ik tx vi sr fr to ho ke) (po_X5_endNow Q) 0 0 := by
  refine M_ofv (cc := cX5_endNow) (nL := 1) (by decide) rfl (Nat.le_of_ble_eq_true rfl) ?_
  intro p e s m args below meth c A hc hr
  refine V_lv [0] [(0, .ref hM)] rfl ?_
  unfold wp_X5_endNow at hv
  refine V_aload_n hc dX5_endNow_0 0 rfl ?_
  refine V_get (C := RX5) (T := TX5) (N := 21) hc i_X5_endNow_5 0 rfl rfl 0 (by decide) m_X5_endNow_7 rfl dX5_endNow_1 ?_
  refine V_sipush hc dX5_endNow_4 (by decide) ?_
  refine V_iconst hc dX5_endNow_7 ?_
  refine V_iast hc 1 rfl (by decide) ⟨by decide, hv⟩ dX5_endNow_8 [oB hM 5 [.ref zA, .ref spA, .ref svA, .int (iI nsv), .ref soA, .ref ikA, .ref txA, .int (iI len), .int (iI thr), .int (iI nvi), .ref viA, .int (iI low), .int (iI high), .ref srA, .ref frA, .ref toA, .ref hoA, .ref keA, .int (iI nto), .int (iI spo), .int (iI mos)], aI t zA 646 (uI z 482 0), aI t spA 646 sp, aI t svA 3876 sv, aI t soA 1292 so, aZ t ikA 2 ik, aI t txA 60 tx, aI t viA 120 vi, aI t srA 120 sr, aI t frA 122 fr, aI t toA 122 to, aI t hoA 31 ho, aI t keA 31 ke] rfl (fun hv => ?_)
  refine V_aload_n hc dX5_endNow_9 0 rfl ?_
  refine V_get (C := RX5) (T := TX5) (N := 21) hc i_X5_endNow_5 0 rfl rfl 0 (by decide) m_X5_endNow_7 rfl dX5_endNow_10 ?_
  refine V_sipush hc dX5_endNow_13 (by decide) ?_
  refine V_iconst hc dX5_endNow_16 ?_
  refine V_iast hc 1 rfl (by decide) ⟨by decide, hv⟩ dX5_endNow_17 [oB hM 5 [.ref zA, .ref spA, .ref svA, .int (iI nsv), .ref soA, .ref ikA, .ref txA, .int (iI len), .int (iI thr), .int (iI nvi), .ref viA, .int (iI low), .int (iI high), .ref srA, .ref frA, .ref toA, .ref hoA, .ref keA, .int (iI nto), .int (iI spo), .int (iI mos)], aI t zA 646 (uI (uI z 482 0) 483 0), aI t spA 646 sp, aI t svA 3876 sv, aI t soA 1292 so, aZ t ikA 2 ik, aI t txA 60 tx, aI t viA 120 vi, aI t srA 120 sr, aI t frA 122 fr, aI t toA 122 to, aI t hoA 31 ho, aI t keA 31 ke] rfl (fun hv => ?_)
  refine V_aload_n hc dX5_endNow_18 0 rfl ?_
  refine V_get (C := RX5) (T := TX5) (N := 21) hc i_X5_endNow_5 0 rfl rfl 0 (by decide) m_X5_endNow_7 rfl dX5_endNow_19 ?_
  refine V_sipush hc dX5_endNow_22 (by decide) ?_
  refine V_iconst hc dX5_endNow_25 ?_
  refine V_iast hc 1 rfl (by decide) ⟨by decide, hv⟩ dX5_endNow_26 [oB hM 5 [.ref zA, .ref spA, .ref svA, .int (iI nsv), .ref soA, .ref ikA, .ref txA, .int (iI len), .int (iI thr), .int (iI nvi), .ref viA, .int (iI low), .int (iI high), .ref srA, .ref frA, .ref toA, .ref hoA, .ref keA, .int (iI nto), .int (iI spo), .int (iI mos)], aI t zA 646 (uI (uI (uI z 482 0) 483 0) 484 0), aI t spA 646 sp, aI t svA 3876 sv, aI t soA 1292 so, aZ t ikA 2 ik, aI t txA 60 tx, aI t viA 120 vi, aI t srA 120 sr, aI t frA 122 fr, aI t toA 122 to, aI t hoA 31 ho, aI t keA 31 ke] rfl (fun hv => ?_)
  refine V_aload_n hc dX5_endNow_27 0 rfl ?_
  refine V_get (C := RX5) (T := TX5) (N := 21) hc i_X5_endNow_5 0 rfl rfl 0 (by decide) m_X5_endNow_7 rfl dX5_endNow_28 ?_
  refine V_sipush hc dX5_endNow_31 (by decide) ?_
  refine V_iconst hc dX5_endNow_34 ?_
  refine V_iast hc 1 rfl (by decide) ⟨by decide, hv⟩ dX5_endNow_35 [oB hM 5 [.ref zA, .ref spA, .ref svA, .int (iI nsv), .ref soA, .ref ikA, .ref txA, .int (iI len), .int (iI thr), .int (iI nvi), .ref viA, .int (iI low), .int (iI high), .ref srA, .ref frA, .ref toA, .ref hoA, .ref keA, .int (iI nto), .int (iI spo), .int (iI mos)], aI t zA 646 (uI (uI (uI (uI z 482 0) 483 0) 484 0) 485 0), aI t spA 646 sp, aI t svA 3876 sv, aI t soA 1292 so, aZ t ikA 2 ik, aI t txA 60 tx, aI t viA 120 vi, aI t srA 120 sr, aI t frA 122 fr, aI t toA 122 to, aI t hoA 31 ho, aI t keA 31 ke] rfl (fun hv => ?_)
  refine V_aload_n hc dX5_endNow_36 0 rfl ?_
  refine V_get (C := RX5) (T := TX5) (N := 21) hc i_X5_endNow_5 0 rfl rfl 0 (by decide) m_X5_endNow_7 rfl dX5_endNow_37 ?_
  refine V_sipush hc dX5_endNow_40 (by decide) ?_
  refine V_iconst hc dX5_endNow_43 ?_
  refine V_iast hc 1 rfl (by decide) ⟨by decide, hv⟩ dX5_endNow_44 [oB hM 5 [.ref zA, .ref spA, .ref svA, .int (iI nsv), .ref soA, .ref ikA, .ref txA, .int (iI len), .int (iI thr), .int (iI nvi), .ref viA, .int (iI low), .int (iI high), .ref srA, .ref frA, .ref toA, .ref hoA, .ref keA, .int (iI nto), .int (iI spo), .int (iI mos)], aI t zA 646 (uI (uI (uI (uI (uI z 482 0) 483 0) 484 0) 485 0) 241 0), aI t spA 646 sp, aI t svA 3876 sv, aI t soA 1292 so, aZ t ikA 2 ik, aI t txA 60 tx, aI t viA 120 vi, aI t srA 120 sr, aI t frA 122 fr, aI t toA 122 to, aI t hoA 31 ho, aI t keA 31 ke] rfl (fun hv => ?_)
  exact V_vret hc hr (uI (uI (uI (uI (uI z 482 0) 483 0) 484 0) 485 0) 241 0) hv rfl dX5_endNow_45
abbrev W1_X5_replay (t : Nat → ClassId) (hM : Nat) (zA : Nat) (spA : Nat) (svA : Nat) (soA : Nat) (ikA : Nat) (txA : Nat) (viA : Nat) (srA : Nat) (frA : Nat) (toA : Nat) (hoA : Nat) (keA : Nat) (nsv : Int) (len : Int) (thr : Int) (nvi : Int) (low : Int) (high : Int) (nto : Int) (spo : Int) (mos : Int) (sp : Nat → Int) (sv : Nat → Int) (so : Nat → Int) (ik : Nat → Int) (tx : Nat → Int) (vi : Nat → Int) (sr : Nat → Int) (fr : Nat → Int) (to : Nat → Int) (ho : Nat → Int) (ke : Nat → Int) (u : (Nat → Int)) : va_W := [oB hM 5 [.ref zA, .ref spA, .ref svA, .int (iI nsv), .ref soA, .ref ikA, .ref txA, .int (iI len), .int (iI thr), .int (iI nvi), .ref viA, .int (iI low), .int (iI high), .ref srA, .ref frA, .ref toA, .ref hoA, .ref keA, .int (iI nto), .int (iI spo), .int (iI mos)], aI t zA 646 u, aI t spA 646 sp, aI t svA 3876 sv, aI t soA 1292 so, aZ t ikA 2 ik, aI t txA 60 tx, aI t viA 120 vi, aI t srA 120 sr, aI t frA 122 fr, aI t toA 122 to, aI t hoA 31 ho, aI t keA 31 ke]
abbrev po_X5_replay (Q : (Nat → Int) → Prop) (u : (Nat → Int)) : Prop := Q u
abbrev rm_X5_replay : Room := { frames := 2, cells := 0, slots := 0, locals := 47 }
def wp_X5_replay_23 (x1 : Int) (Q : (Nat → Int) → Prop) (K_23 : (Nat → Int) → Int → Prop) (z : Nat → Int) (x2 : Int) : Prop := inR x2 ∧ inR (z 485) ∧ (x2 ≥ z 485 → inR x1 ∧ (x1 ≥ 500 → wp_X5_mark z 241 (x1 - 500) (fun z_1 => Q z_1)) ∧ (¬ (x1 ≥ 500) → wp_X5_put z 241 x1 (fun z_2 => Q z_2))) ∧ (¬ (x2 ≥ z 485) → (0 ≤ (606 + x2) + 1 ∧ (606 + x2) + 1 < 646) ∧ (0 ≤ 606 + x2 ∧ 606 + x2 < 646) ∧ K_23 (uI z ((606 + x2).toNat) (z ((606 + x2) + 1).toNat)) (x2 + 1))
def wp_X5_replay (z : Nat → Int) (Q : (Nat → Int) → Prop) : Prop := (∃ n, lq2 (wp_X5_replay_23 (z 606) Q) n (uI z 485 ((z 485) - 1)) 0)
theorem m_X5_replay_7 : Cond.fieldLink RX5 7 "BackgroundRebuildModel" "z" "[I" ∈ wsX5_replay := by decide +kernel
theorem i_X5_replay_5 : ∀ w ∈ u_ws RX5 TX5 21, w ∈ wsX5_replay := by decide +kernel
theorem ok_X5_replay : yX5_replay.cls = RX5 ∧ yX5_replay.cls ≠ "java/lang/invoke/MethodHandle" ∧ yX5_replay.cls ≠ "java/lang/invoke/VarHandle" ∧ (parseMethodDescriptor yX5_replay.desc).map (fun d => d.parameters.length) = some 0 := by decide +kernel
set_option maxHeartbeats 4000000 in
set_option maxRecDepth 100000 in
theorem met_X5_replay (l : Launch) (D : va_G) (t : Nat → ClassId) (hM : Nat) (zA : Nat) (spA : Nat) (svA : Nat) (soA : Nat) (ikA : Nat) (txA : Nat) (viA : Nat) (srA : Nat) (frA : Nat) (toA : Nat) (hoA : Nat) (keA : Nat) (nsv : Int) (len : Int) (thr : Int) (nvi : Int) (low : Int) (high : Int) (nto : Int) (spo : Int) (mos : Int) (z : Nat → Int) (sp : Nat → Int) (sv : Nat → Int) (so : Nat → Int) (ik : Nat → Int) (tx : Nat → Int) (vi : Nat → Int) (sr : Nat → Int) (fr : Nat → Int) (to : Nat → Int) (ho : Nat → Int) (ke : Nat → Int) (Q : (Nat → Int) → Prop) (hv : wp_X5_replay z Q) : MV l D t yX5_replay wsX5_replay rm_X5_replay [.ref hM] [oB hM 5 [.ref zA, .ref spA, .ref svA, .int (iI nsv), .ref soA, .ref ikA, .ref txA, .int (iI len), .int (iI thr), .int (iI nvi), .ref viA, .int (iI low), .int (iI high), .ref srA, .ref frA, .ref toA, .ref hoA, .ref keA, .int (iI nto), .int (iI spo), .int (iI mos)], aI t zA 646 z, aI t spA 646 sp, aI t svA 3876 sv, aI t soA 1292 so, aZ t ikA 2 ik, aI t txA 60 tx, aI t viA 120 vi, aI t srA 120 sr, aI t frA 122 fr, aI t toA 122 to, aI t hoA 31 ho, aI t keA 31 ke] (W1_X5_replay t hM zA spA svA soA ikA txA viA srA frA toA hoA keA nsv len thr nvi low high nto spo mos sp sv so ik tx vi sr fr to ho ke) (po_X5_replay Q) 0 0 := by
  refine M_ofv (cc := cX5_replay) (nL := 3) (by decide) rfl (Nat.le_of_ble_eq_true rfl) ?_
  intro p e s m args below meth c A hc hr
  have L_23 : ∀ (x1 : Int) (n9 : Nat) (z : Nat → Int) (x2 : Int), lq2 (wp_X5_replay_23 x1 Q) n9 z x2 → V p l e rm_X5_replay s m args below meth c D A 3 0 0 (MQ below (QV D A (W1_X5_replay t hM zA spA svA soA ikA txA viA srA frA toA hoA keA nsv len thr nvi low high nto spo mos sp sv so ik tx vi sr fr to ho ke) (po_X5_replay Q)) args s 0 0 A) 23 [(0, .ref hM), (1, .int (iI x1)), (2, .int (iI x2))] [] [oB hM 5 [.ref zA, .ref spA, .ref svA, .int (iI nsv), .ref soA, .ref ikA, .ref txA, .int (iI len), .int (iI thr), .int (iI nvi), .ref viA, .int (iI low), .int (iI high), .ref srA, .ref frA, .ref toA, .ref hoA, .ref keA, .int (iI nto), .int (iI spo), .int (iI mos)], aI t zA 646 z, aI t spA 646 sp, aI t svA 3876 sv, aI t soA 1292 so, aZ t ikA 2 ik, aI t txA 60 tx, aI t viA 120 vi, aI t srA 120 sr, aI t frA 122 fr, aI t toA 122 to, aI t hoA 31 ho, aI t keA 31 ke] := by
    intro x1 n9
    induction n9 with
    | zero =>
      intro z x2 hv
      exact hv.elim
    | succ n9 ih =>
      intro z x2 hv
      have hv : wp_X5_replay_23 x1 Q (lq2 (wp_X5_replay_23 x1 Q) n9) z x2 := hv
      generalize lq2 (wp_X5_replay_23 x1 Q) n9 = K_23 at hv ih
      have hK_23 := ih
      unfold wp_X5_replay_23 at hv
      refine V_iload_n hc dX5_replay_23 2 rfl ?_
      refine V_aload_n hc dX5_replay_24 0 rfl ?_
      refine V_get (C := RX5) (T := TX5) (N := 21) hc i_X5_replay_5 0 rfl rfl 0 (by decide) m_X5_replay_7 rfl dX5_replay_25 ?_
      refine V_sipush hc dX5_replay_28 (by decide) ?_
      refine V_iald hc 1 rfl (by decide) ⟨by decide, hv⟩ dX5_replay_31 (fun hv => ?_)
      refine V_icmp_ge (tgt := 63) hc dX5_replay_32 (by decide) hv (fun hv => ?_) (fun hv => ?_)
      · refine V_iload_n hc dX5_replay_63 1 rfl ?_
        refine V_sipush hc dX5_replay_64 (by decide) ?_
        refine V_icmp_ge (tgt := 81) hc dX5_replay_67 (by decide) ⟨hv.1, by decide, hv.2⟩ (fun hv => ?_) (fun hv => ?_)
        · refine V_aload_n hc dX5_replay_81 0 rfl ?_
          refine V_sipush hc dX5_replay_82 (by decide) ?_
          refine V_iload_n hc dX5_replay_85 1 rfl ?_
          refine V_sipush hc dX5_replay_86 (by decide) ?_
          refine V_isub hc dX5_replay_89 ?_
          refine V_callVV (As := [.int (iI 241), .int (iI (x1 - 500))]) hc (wc := [oB hM 5 [.ref zA, .ref spA, .ref svA, .int (iI nsv), .ref soA, .ref ikA, .ref txA, .int (iI len), .int (iI thr), .int (iI nvi), .ref viA, .int (iI low), .int (iI high), .ref srA, .ref frA, .ref toA, .ref hoA, .ref keA, .int (iI nto), .int (iI spo), .int (iI mos)], aI t zA 646 z, aI t spA 646 sp, aI t svA 3876 sv, aI t soA 1292 so, aZ t ikA 2 ik, aI t txA 60 tx, aI t viA 120 vi, aI t srA 120 sr, aI t frA 122 fr, aI t toA 122 to, aI t hoA 31 ho, aI t keA 31 ke]) (wr := []) (pmI (ws := [oB hM 5 [.ref zA, .ref spA, .ref svA, .int (iI nsv), .ref soA, .ref ikA, .ref txA, .int (iI len), .int (iI thr), .int (iI nvi), .ref viA, .int (iI low), .int (iI high), .ref srA, .ref frA, .ref toA, .ref hoA, .ref keA, .int (iI nto), .int (iI spo), .int (iI mos)], aI t zA 646 z, aI t spA 646 sp, aI t svA 3876 sv, aI t soA 1292 so, aZ t ikA 2 ik, aI t txA 60 tx, aI t viA 120 vi, aI t srA 120 sr, aI t frA 122 fr, aI t toA 122 to, aI t hoA 31 ho, aI t keA 31 ke]) (ws1 := [oB hM 5 [.ref zA, .ref spA, .ref svA, .int (iI nsv), .ref soA, .ref ikA, .ref txA, .int (iI len), .int (iI thr), .int (iI nvi), .ref viA, .int (iI low), .int (iI high), .ref srA, .ref frA, .ref toA, .ref hoA, .ref keA, .int (iI nto), .int (iI spo), .int (iI mos)], aI t zA 646 z, aI t spA 646 sp, aI t svA 3876 sv, aI t soA 1292 so, aZ t ikA 2 ik, aI t txA 60 tx, aI t viA 120 vi, aI t srA 120 sr, aI t frA 122 fr, aI t toA 122 to, aI t hoA 31 ho, aI t keA 31 ke] ++ []) [0, 1, 2, 3, 4, 5, 6, 7, 8, 9, 10, 11, 12] 13 rfl (by decide +kernel) rfl) rfl rfl (met_X5_mark l D t hM zA spA svA soA ikA txA viA srA frA toA hoA keA nsv len thr nvi low high nto spo mos z sp sv so ik tx vi sr fr to ho ke 241 (x1 - 500) _ hv) rfl gX5_replay_X5_mark rfl ⟨rfl, rfl⟩ ok_X5_mark (by decide) (Nat.le_of_ble_eq_true rfl) dX5_replay_90 (by decide) (fun u9 hv => ?_)
          obtain ⟨z_1, h9⟩ : ∃ z, z = u9 := ⟨_, rfl⟩
          subst h9
          try dsimp only at hv
          refine V_perm (ws1 := [oB hM 5 [.ref zA, .ref spA, .ref svA, .int (iI nsv), .ref soA, .ref ikA, .ref txA, .int (iI len), .int (iI thr), .int (iI nvi), .ref viA, .int (iI low), .int (iI high), .ref srA, .ref frA, .ref toA, .ref hoA, .ref keA, .int (iI nto), .int (iI spo), .int (iI mos)], aI t zA 646 z_1, aI t spA 646 sp, aI t svA 3876 sv, aI t soA 1292 so, aZ t ikA 2 ik, aI t txA 60 tx, aI t viA 120 vi, aI t srA 120 sr, aI t frA 122 fr, aI t toA 122 to, aI t hoA 31 ho, aI t keA 31 ke]) (pmI (ws := [oB hM 5 [.ref zA, .ref spA, .ref svA, .int (iI nsv), .ref soA, .ref ikA, .ref txA, .int (iI len), .int (iI thr), .int (iI nvi), .ref viA, .int (iI low), .int (iI high), .ref srA, .ref frA, .ref toA, .ref hoA, .ref keA, .int (iI nto), .int (iI spo), .int (iI mos)], aI t zA 646 z_1, aI t spA 646 sp, aI t svA 3876 sv, aI t soA 1292 so, aZ t ikA 2 ik, aI t txA 60 tx, aI t viA 120 vi, aI t srA 120 sr, aI t frA 122 fr, aI t toA 122 to, aI t hoA 31 ho, aI t keA 31 ke] ++ []) (ws1 := [oB hM 5 [.ref zA, .ref spA, .ref svA, .int (iI nsv), .ref soA, .ref ikA, .ref txA, .int (iI len), .int (iI thr), .int (iI nvi), .ref viA, .int (iI low), .int (iI high), .ref srA, .ref frA, .ref toA, .ref hoA, .ref keA, .int (iI nto), .int (iI spo), .int (iI mos)], aI t zA 646 z_1, aI t spA 646 sp, aI t svA 3876 sv, aI t soA 1292 so, aZ t ikA 2 ik, aI t txA 60 tx, aI t viA 120 vi, aI t srA 120 sr, aI t frA 122 fr, aI t toA 122 to, aI t hoA 31 ho, aI t keA 31 ke]) [0, 1, 2, 3, 4, 5, 6, 7, 8, 9, 10, 11, 12] 13 rfl (by decide +kernel) rfl) ?_
          exact V_vret hc hr z_1 hv rfl dX5_replay_93
        · refine V_aload_n hc dX5_replay_70 0 rfl ?_
          refine V_sipush hc dX5_replay_71 (by decide) ?_
          refine V_iload_n hc dX5_replay_74 1 rfl ?_
          refine V_callVV (As := [.int (iI 241), .int (iI x1)]) hc (wc := [oB hM 5 [.ref zA, .ref spA, .ref svA, .int (iI nsv), .ref soA, .ref ikA, .ref txA, .int (iI len), .int (iI thr), .int (iI nvi), .ref viA, .int (iI low), .int (iI high), .ref srA, .ref frA, .ref toA, .ref hoA, .ref keA, .int (iI nto), .int (iI spo), .int (iI mos)], aI t zA 646 z, aI t spA 646 sp, aI t svA 3876 sv, aI t soA 1292 so, aZ t ikA 2 ik, aI t txA 60 tx, aI t viA 120 vi, aI t srA 120 sr, aI t frA 122 fr, aI t toA 122 to, aI t hoA 31 ho, aI t keA 31 ke]) (wr := []) (pmI (ws := [oB hM 5 [.ref zA, .ref spA, .ref svA, .int (iI nsv), .ref soA, .ref ikA, .ref txA, .int (iI len), .int (iI thr), .int (iI nvi), .ref viA, .int (iI low), .int (iI high), .ref srA, .ref frA, .ref toA, .ref hoA, .ref keA, .int (iI nto), .int (iI spo), .int (iI mos)], aI t zA 646 z, aI t spA 646 sp, aI t svA 3876 sv, aI t soA 1292 so, aZ t ikA 2 ik, aI t txA 60 tx, aI t viA 120 vi, aI t srA 120 sr, aI t frA 122 fr, aI t toA 122 to, aI t hoA 31 ho, aI t keA 31 ke]) (ws1 := [oB hM 5 [.ref zA, .ref spA, .ref svA, .int (iI nsv), .ref soA, .ref ikA, .ref txA, .int (iI len), .int (iI thr), .int (iI nvi), .ref viA, .int (iI low), .int (iI high), .ref srA, .ref frA, .ref toA, .ref hoA, .ref keA, .int (iI nto), .int (iI spo), .int (iI mos)], aI t zA 646 z, aI t spA 646 sp, aI t svA 3876 sv, aI t soA 1292 so, aZ t ikA 2 ik, aI t txA 60 tx, aI t viA 120 vi, aI t srA 120 sr, aI t frA 122 fr, aI t toA 122 to, aI t hoA 31 ho, aI t keA 31 ke] ++ []) [0, 1, 2, 3, 4, 5, 6, 7, 8, 9, 10, 11, 12] 13 rfl (by decide +kernel) rfl) rfl rfl (met_X5_put l D t hM zA spA svA soA ikA txA viA srA frA toA hoA keA nsv len thr nvi low high nto spo mos z sp sv so ik tx vi sr fr to ho ke 241 x1 _ hv) rfl gX5_replay_X5_put rfl ⟨rfl, rfl⟩ ok_X5_put (by decide) (Nat.le_of_ble_eq_true rfl) dX5_replay_75 (by decide) (fun u9 hv => ?_)
          obtain ⟨z_2, h9⟩ : ∃ z, z = u9 := ⟨_, rfl⟩
          subst h9
          try dsimp only at hv
          refine V_perm (ws1 := [oB hM 5 [.ref zA, .ref spA, .ref svA, .int (iI nsv), .ref soA, .ref ikA, .ref txA, .int (iI len), .int (iI thr), .int (iI nvi), .ref viA, .int (iI low), .int (iI high), .ref srA, .ref frA, .ref toA, .ref hoA, .ref keA, .int (iI nto), .int (iI spo), .int (iI mos)], aI t zA 646 z_2, aI t spA 646 sp, aI t svA 3876 sv, aI t soA 1292 so, aZ t ikA 2 ik, aI t txA 60 tx, aI t viA 120 vi, aI t srA 120 sr, aI t frA 122 fr, aI t toA 122 to, aI t hoA 31 ho, aI t keA 31 ke]) (pmI (ws := [oB hM 5 [.ref zA, .ref spA, .ref svA, .int (iI nsv), .ref soA, .ref ikA, .ref txA, .int (iI len), .int (iI thr), .int (iI nvi), .ref viA, .int (iI low), .int (iI high), .ref srA, .ref frA, .ref toA, .ref hoA, .ref keA, .int (iI nto), .int (iI spo), .int (iI mos)], aI t zA 646 z_2, aI t spA 646 sp, aI t svA 3876 sv, aI t soA 1292 so, aZ t ikA 2 ik, aI t txA 60 tx, aI t viA 120 vi, aI t srA 120 sr, aI t frA 122 fr, aI t toA 122 to, aI t hoA 31 ho, aI t keA 31 ke] ++ []) (ws1 := [oB hM 5 [.ref zA, .ref spA, .ref svA, .int (iI nsv), .ref soA, .ref ikA, .ref txA, .int (iI len), .int (iI thr), .int (iI nvi), .ref viA, .int (iI low), .int (iI high), .ref srA, .ref frA, .ref toA, .ref hoA, .ref keA, .int (iI nto), .int (iI spo), .int (iI mos)], aI t zA 646 z_2, aI t spA 646 sp, aI t svA 3876 sv, aI t soA 1292 so, aZ t ikA 2 ik, aI t txA 60 tx, aI t viA 120 vi, aI t srA 120 sr, aI t frA 122 fr, aI t toA 122 to, aI t hoA 31 ho, aI t keA 31 ke]) [0, 1, 2, 3, 4, 5, 6, 7, 8, 9, 10, 11, 12] 13 rfl (by decide +kernel) rfl) ?_
          refine V_goto (tgt := 93) hc dX5_replay_78 (by decide) ?_
          exact V_vret hc hr z_2 hv rfl dX5_replay_93
      · refine V_aload_n hc dX5_replay_35 0 rfl ?_
        refine V_get (C := RX5) (T := TX5) (N := 21) hc i_X5_replay_5 0 rfl rfl 0 (by decide) m_X5_replay_7 rfl dX5_replay_36 ?_
        refine V_sipush hc dX5_replay_39 (by decide) ?_
        refine V_iload_n hc dX5_replay_42 2 rfl ?_
        refine V_iadd hc dX5_replay_43 ?_
        refine V_aload_n hc dX5_replay_44 0 rfl ?_
        refine V_get (C := RX5) (T := TX5) (N := 21) hc i_X5_replay_5 0 rfl rfl 0 (by decide) m_X5_replay_7 rfl dX5_replay_45 ?_
        refine V_sipush hc dX5_replay_48 (by decide) ?_
        refine V_iload_n hc dX5_replay_51 2 rfl ?_
        refine V_iadd hc dX5_replay_52 ?_
        refine V_iconst hc dX5_replay_53 ?_
        refine V_iadd hc dX5_replay_54 ?_
        refine V_iald hc 1 rfl (by decide) hv dX5_replay_55 (fun hv => ?_)
        refine V_iast hc 1 rfl (by decide) hv dX5_replay_56 [oB hM 5 [.ref zA, .ref spA, .ref svA, .int (iI nsv), .ref soA, .ref ikA, .ref txA, .int (iI len), .int (iI thr), .int (iI nvi), .ref viA, .int (iI low), .int (iI high), .ref srA, .ref frA, .ref toA, .ref hoA, .ref keA, .int (iI nto), .int (iI spo), .int (iI mos)], aI t zA 646 (uI z ((606 + x2).toNat) (z ((606 + x2) + 1).toNat)), aI t spA 646 sp, aI t svA 3876 sv, aI t soA 1292 so, aZ t ikA 2 ik, aI t txA 60 tx, aI t viA 120 vi, aI t srA 120 sr, aI t frA 122 fr, aI t toA 122 to, aI t hoA 31 ho, aI t keA 31 ke] rfl (fun hv => ?_)
        refine V_iinc hc dX5_replay_57 2 rfl [(2, .int (iI (x2 + 1))), (0, .ref hM), (1, .int (iI x1))] (by decide) rfl ?_
        refine V_goto (tgt := 23) hc dX5_replay_60 (by decide) ?_
        refine V_lv [1, 2, 0] [(0, .ref hM), (1, .int (iI x1)), (2, .int (iI (x2 + 1)))] rfl ?_
        exact hK_23 (uI z ((606 + x2).toNat) (z ((606 + x2) + 1).toNat)) (x2 + 1) hv
  refine V_lv [0] [(0, .ref hM)] rfl ?_
  unfold wp_X5_replay at hv
  refine V_aload_n hc dX5_replay_0 0 rfl ?_
  refine V_get (C := RX5) (T := TX5) (N := 21) hc i_X5_replay_5 0 rfl rfl 0 (by decide) m_X5_replay_7 rfl dX5_replay_1 ?_
  refine V_sipush hc dX5_replay_4 (by decide) ?_
  refine V_iald hc 1 rfl (by decide) ⟨by decide, hv⟩ dX5_replay_7 (fun hv => ?_)
  refine V_istore_n hc dX5_replay_8 [(1, .int (iI (z 606))), (0, .ref hM)] (by decide) rfl ?_
  refine V_aload_n hc dX5_replay_9 1 rfl ?_
  refine V_get (C := RX5) (T := TX5) (N := 21) hc i_X5_replay_5 0 rfl rfl 0 (by decide) m_X5_replay_7 rfl dX5_replay_10 ?_
  refine V_sipush hc dX5_replay_13 (by decide) ?_
  refine V_dup2 hc dX5_replay_16 rfl rfl ?_
  refine V_iald hc 1 rfl (by decide) ⟨by decide, hv⟩ dX5_replay_17 (fun hv => ?_)
  refine V_iconst hc dX5_replay_18 ?_
  refine V_isub hc dX5_replay_19 ?_
  refine V_iast hc 1 rfl (by decide) ⟨by decide, hv⟩ dX5_replay_20 [oB hM 5 [.ref zA, .ref spA, .ref svA, .int (iI nsv), .ref soA, .ref ikA, .ref txA, .int (iI len), .int (iI thr), .int (iI nvi), .ref viA, .int (iI low), .int (iI high), .ref srA, .ref frA, .ref toA, .ref hoA, .ref keA, .int (iI nto), .int (iI spo), .int (iI mos)], aI t zA 646 (uI z 485 ((z 485) - 1)), aI t spA 646 sp, aI t svA 3876 sv, aI t soA 1292 so, aZ t ikA 2 ik, aI t txA 60 tx, aI t viA 120 vi, aI t srA 120 sr, aI t frA 122 fr, aI t toA 122 to, aI t hoA 31 ho, aI t keA 31 ke] rfl (fun hv => ?_)
  refine V_iconst hc dX5_replay_21 ?_
  refine V_istore_n hc dX5_replay_22 [(2, .int (iI 0)), (1, .int (iI (z 606))), (0, .ref hM)] (by decide) rfl ?_
  refine V_lv [2, 1, 0] [(0, .ref hM), (1, .int (iI (z 606))), (2, .int (iI 0))] rfl ?_
  obtain ⟨n9, hv⟩ := hv
  exact L_23 (z 606) n9 (uI z 485 ((z 485) - 1)) 0 hv
