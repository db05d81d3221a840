abbrev W1_X5_queued (t : Nat → ClassId) (hM : Nat) (zA : Nat) (spA : Nat) (svA : Nat) (soA : Nat) (ikA : Nat) (txA : Nat) (viA : Nat) (srA : Nat) (frA : Nat) (toA : Nat) (hoA : Nat) (keA : Nat) (nsv : Int) (len : Int) (nvi : Int) (low : Int) (high : Int) (nto : Int) (spo : Int) (mos : Int) (z : Nat → Int) (sp : Nat → Int) (sv : Nat → Int) (so : Nat → Int) (ik : Nat → Int) (tx : Nat → Int) (vi : Nat → Int) (sr : Nat → Int) (fr : Nat → Int) (to : Nat → Int) (ho : Nat → Int) (ke : Nat → Int) (u : (Int)) : va_W := [oB hM 5 [.ref zA, .ref spA, .ref svA, .int (iI nsv), .ref soA, .ref ikA, .ref txA, .int (iI len), .int (iI u), .int (iI nvi), .ref viA, .int (iI low), .int (iI high), .ref srA, .ref frA, .ref toA, .ref hoA, .ref keA, .int (iI nto), .int (iI spo), .int (iI mos)], aI t zA 646 z, aI t spA 646 sp, aI t svA 3876 sv, aI t soA 1292 so, aZ t ikA 2 ik, aI t txA 60 tx, aI t viA 120 vi, aI t srA 120 sr, aI t frA 122 fr, aI t toA 122 to, aI t hoA 31 ho, aI t keA 31 ke]
abbrev po_X5_queued (Q : Int → (Int) → Prop) (r : Int) (u : (Int)) : Prop := Q r u
abbrev rm_X5_queued : Room := { frames := 1, cells := 0, slots := 0, locals := 21 }
def wp_X5_queued_10 (thr : Int) (z : Nat → Int) (x1 : Int) (s0 : Int) (Q : Int → (Int) → Prop) : Prop := wp_X5_refused thr s0 (fun r_1 thr_1 => inR r_1 ∧ (r_1 = 0 → inR x1 ∧ inR (z 485) ∧ (x1 ≥ z 485 → Q (-1) thr_1) ∧ (¬ (x1 ≥ z 485) → (0 ≤ 606 + x1 ∧ 606 + x1 < 646) ∧ Q (z (606 + x1).toNat) thr_1)) ∧ (¬ (r_1 = 0) → Q 0 thr_1))
def wp_X5_queued (thr : Int) (z : Nat → Int) (x1 : Int) (Q : Int → (Int) → Prop) : Prop := inR x1 ∧ (x1 ≥ 0 → wp_X5_queued_10 thr z x1 0 Q) ∧ (¬ (x1 ≥ 0) → wp_X5_queued_10 thr z x1 1 Q)
theorem m_X5_queued_7 : Cond.fieldLink RX5 7 "BackgroundRebuildModel" "z" "[I" ∈ wsX5_queued := by decide +kernel
theorem i_X5_queued_5 : ∀ w ∈ u_ws RX5 TX5 21, w ∈ wsX5_queued := by decide +kernel
theorem ok_X5_queued : yX5_queued.cls = RX5 ∧ yX5_queued.cls ≠ "java/lang/invoke/MethodHandle" ∧ yX5_queued.cls ≠ "java/lang/invoke/VarHandle" ∧ (parseMethodDescriptor yX5_queued.desc).map (fun d => d.parameters.length) = some 1 := by decide +kernel
set_option maxHeartbeats 4000000 in
set_option maxRecDepth 100000 in
theorem met_X5_queued (l : Launch) (D : va_G) (t : Nat → ClassId) (hM : Nat) (zA : Nat) (spA : Nat) (svA : Nat) (soA : Nat) (ikA : Nat) (txA : Nat) (viA : Nat) (srA : Nat) (frA : Nat) (toA : Nat) (hoA : Nat) (keA : Nat) (nsv : Int) (len : Int) (thr : Int) (nvi : Int) (low : Int) (high : Int) (nto : Int) (spo : Int) (mos : Int) (z : Nat → Int) (sp : Nat → Int) (sv : Nat → Int) (so : Nat → Int) (ik : Nat → Int) (tx : Nat → Int) (vi : Nat → Int) (sr : Nat → Int) (fr : Nat → Int) (to : Nat → Int) (ho : Nat → Int) (ke : Nat → Int) (x1 : Int) (Q : Int → (Int) → Prop) (hv : wp_X5_queued thr z x1 Q) : MI l D t yX5_queued wsX5_queued rm_X5_queued [.ref hM, .int (iI x1)] [oB hM 5 [.ref zA, .ref spA, .ref svA, .int (iI nsv), .ref soA, .ref ikA, .ref txA, .int (iI len), .int (iI thr), .int (iI nvi), .ref viA, .int (iI low), .int (iI high), .ref srA, .ref frA, .ref toA, .ref hoA, .ref keA, .int (iI nto), .int (iI spo), .int (iI mos)], aI t zA 646 z, aI t spA 646 sp, aI t svA 3876 sv, aI t soA 1292 so, aZ t ikA 2 ik, aI t txA 60 tx, aI t viA 120 vi, aI t srA 120 sr, aI t frA 122 fr, aI t toA 122 to, aI t hoA 31 ho, aI t keA 31 ke] (W1_X5_queued t hM zA spA svA soA ikA txA viA srA frA toA hoA keA nsv len nvi low high nto spo mos z sp sv so ik tx vi sr fr to ho ke) (po_X5_queued Q) 0 0 := by
  refine M_ofi (cc := cX5_queued) (nL := 2) (by decide) rfl (Nat.le_of_ble_eq_true rfl) ?_
  intro p e s m args below meth c A hc hr
  have C_10 : ∀ (thr : Int) (z : Nat → Int) (x1 : Int) (s0 : Int), wp_X5_queued_10 thr z x1 s0 Q → V p l e rm_X5_queued s m args below meth c D A 2 0 0 (MQ below (QI D A (W1_X5_queued t hM zA spA svA soA ikA txA viA srA frA toA hoA keA nsv len nvi low high nto spo mos z sp sv so ik tx vi sr fr to ho ke) (po_X5_queued Q)) args s 0 0 A) 10 [(0, .ref hM), (1, .int (iI x1))] [.int (iI s0), .ref hM] [oB hM 5 [.ref zA, .ref spA, .ref svA, .int (iI nsv), .ref soA, .ref ikA, .ref txA, .int (iI len), .int (iI thr), .int (iI nvi), .ref viA, .int (iI low), .int (iI high), .ref srA, .ref frA, .ref toA, .ref hoA, .ref keA, .int (iI nto), .int (iI spo), .int (iI mos)], aI t zA 646 z, aI t spA 646 sp, aI t svA 3876 sv, aI t soA 1292 so, aZ t ikA 2 ik, aI t txA 60 tx, aI t viA 120 vi, aI t srA 120 sr, aI t frA 122 fr, aI t toA 122 to, aI t hoA 31 ho, aI t keA 31 ke] := by
    intro thr z x1 s0 hv
    unfold wp_X5_queued_10 at hv
    refine V_callVI (As := [.int (iI s0)]) hc (wc := [oB hM 5 [.ref zA, .ref spA, .ref svA, .int (iI nsv), .ref soA, .ref ikA, .ref txA, .int (iI len), .int (iI thr), .int (iI nvi), .ref viA, .int (iI low), .int (iI high), .ref srA, .ref frA, .ref toA, .ref hoA, .ref keA, .int (iI nto), .int (iI spo), .int (iI mos)], aI t zA 646 z, aI t spA 646 sp, aI t svA 3876 sv, aI t soA 1292 so, aZ t ikA 2 ik, aI t txA 60 tx, aI t viA 120 vi, aI t srA 120 sr, aI t frA 122 fr, aI t toA 122 to, aI t hoA 31 ho, aI t keA 31 ke]) (wr := []) (pmI [0, 1, 2, 3, 4, 5, 6, 7, 8, 9, 10, 11, 12] 13 rfl (by decide +kernel) rfl) rfl rfl (met_X5_refused l D t hM zA spA svA soA ikA txA viA srA frA toA hoA keA nsv len thr nvi low high nto spo mos z sp sv so ik tx vi sr fr to ho ke s0 _ hv) rfl gX5_queued_X5_refused rfl ⟨rfl, rfl⟩ ok_X5_refused (by decide) (Nat.le_of_ble_eq_true rfl) dX5_queued_10 (by decide) (fun r_1 u9 hv => ?_)
    obtain ⟨thr_1, h9⟩ : ∃ z, z = u9 := ⟨_, rfl⟩
    subst h9
    try dsimp only at hv
    refine V_perm (ws1 := [oB hM 5 [.ref zA, .ref spA, .ref svA, .int (iI nsv), .ref soA, .ref ikA, .ref txA, .int (iI len), .int (iI thr_1), .int (iI nvi), .ref viA, .int (iI low), .int (iI high), .ref srA, .ref frA, .ref toA, .ref hoA, .ref keA, .int (iI nto), .int (iI spo), .int (iI mos)], aI t zA 646 z, aI t spA 646 sp, aI t svA 3876 sv, aI t soA 1292 so, aZ t ikA 2 ik, aI t txA 60 tx, aI t viA 120 vi, aI t srA 120 sr, aI t frA 122 fr, aI t toA 122 to, aI t hoA 31 ho, aI t keA 31 ke]) (pmI [0, 1, 2, 3, 4, 5, 6, 7, 8, 9, 10, 11, 12] 13 rfl (by decide +kernel) rfl) ?_
    refine V_if_eq (tgt := 18) hc dX5_queued_13 (by decide) hv (fun hv => ?_) (fun hv => ?_)
    · refine V_iload_n hc dX5_queued_18 1 rfl ?_
      refine V_aload_n hc dX5_queued_19 0 rfl ?_
      refine V_get (C := RX5) (T := TX5) (N := 21) hc i_X5_queued_5 0 rfl rfl 0 (by decide) m_X5_queued_7 rfl dX5_queued_20 ?_
      refine V_sipush hc dX5_queued_23 (by decide) ?_
      refine V_iald hc 1 rfl (by decide) ⟨by decide, hv⟩ dX5_queued_26 (fun hv => ?_)
      refine V_icmp_ge (tgt := 43) hc dX5_queued_27 (by decide) hv (fun hv => ?_) (fun hv => ?_)
      · refine V_iconst hc dX5_queued_43 ?_
        exact V_iret hc hr thr_1 hv rfl dX5_queued_44
      · refine V_aload_n hc dX5_queued_30 0 rfl ?_
        refine V_get (C := RX5) (T := TX5) (N := 21) hc i_X5_queued_5 0 rfl rfl 0 (by decide) m_X5_queued_7 rfl dX5_queued_31 ?_
        refine V_sipush hc dX5_queued_34 (by decide) ?_
        refine V_iload_n hc dX5_queued_37 1 rfl ?_
        refine V_iadd hc dX5_queued_38 ?_
        refine V_iald hc 1 rfl (by decide) hv dX5_queued_39 (fun hv => ?_)
        refine V_goto (tgt := 44) hc dX5_queued_40 (by decide) ?_
        exact V_iret hc hr thr_1 hv rfl dX5_queued_44
    · refine V_iconst hc dX5_queued_16 ?_
      exact V_iret hc hr thr_1 hv rfl dX5_queued_17
  refine V_lv [0, 1] [(0, .ref hM), (1, .int (iI x1))] rfl ?_
  unfold wp_X5_queued at hv
  refine V_aload_n hc dX5_queued_0 0 rfl ?_
  refine V_iload_n hc dX5_queued_1 1 rfl ?_
  refine V_if_ge (tgt := 9) hc dX5_queued_2 (by decide) hv (fun hv => ?_) (fun hv => ?_)
  · refine V_iconst hc dX5_queued_9 ?_
    exact C_10 thr z x1 0 hv
  · refine V_iconst hc dX5_queued_5 ?_
    refine V_goto (tgt := 10) hc dX5_queued_6 (by decide) ?_
    exact C_10 thr z x1 1 hv
abbrev W1_X5_count (t : Nat → ClassId) (hM : Nat) (zA : Nat) (spA : Nat) (svA : Nat) (soA : Nat) (ikA : Nat) (txA : Nat) (viA : Nat) (srA : Nat) (frA : Nat) (toA : Nat) (hoA : Nat) (keA : Nat) (nsv : Int) (len : Int) (nvi : Int) (low : Int) (high : Int) (nto : Int) (spo : Int) (mos : Int) (z : Nat → Int) (sp : Nat → Int) (sv : Nat → Int) (so : Nat → Int) (ik : Nat → Int) (tx : Nat → Int) (vi : Nat → Int) (sr : Nat → Int) (fr : Nat → Int) (to : Nat → Int) (ho : Nat → Int) (ke : Nat → Int) (u : (Int)) : va_W := [oB hM 5 [.ref zA, .ref spA, .ref svA, .int (iI nsv), .ref soA, .ref ikA, .ref txA, .int (iI len), .int (iI u), .int (iI nvi), .ref viA, .int (iI low), .int (iI high), .ref srA, .ref frA, .ref toA, .ref hoA, .ref keA, .int (iI nto), .int (iI spo), .int (iI mos)], aI t zA 646 z, aI t spA 646 sp, aI t svA 3876 sv, aI t soA 1292 so, aZ t ikA 2 ik, aI t txA 60 tx, aI t viA 120 vi, aI t srA 120 sr, aI t frA 122 fr, aI t toA 122 to, aI t hoA 31 ho, aI t keA 31 ke]
abbrev po_X5_count (Q : Int → (Int) → Prop) (r : Int) (u : (Int)) : Prop := Q r u
abbrev rm_X5_count : Room := { frames := 1, cells := 0, slots := 0, locals := 22 }
def wp_X5_count_16 (nsv : Int) (len : Int) (thr : Int) (z : Nat → Int) (x1 : Int) (s0 : Int) (Q : Int → (Int) → Prop) : Prop := wp_X5_refused thr s0 (fun r_2 thr_2 => inR r_2 ∧ (r_2 = 0 → inR x1 ∧ (x1 ≥ 7 → inR x1 ∧ (x1 ≠ 7 → Q len thr_2) ∧ (¬ (x1 ≠ 7) → Q nsv thr_2)) ∧ (¬ (x1 ≥ 7) → (0 ≤ 639 + x1 ∧ 639 + x1 < 646) ∧ Q (z (639 + x1).toNat) thr_2)) ∧ (¬ (r_2 = 0) → Q 0 thr_2))
def wp_X5_count (nsv : Int) (len : Int) (thr : Int) (z : Nat → Int) (x1 : Int) (Q : Int → (Int) → Prop) : Prop := wp_X5_in x1 0 8 (fun r_1 => inR r_1 ∧ (r_1 = 0 → wp_X5_count_16 nsv len thr z x1 1 Q) ∧ (¬ (r_1 = 0) → wp_X5_count_16 nsv len thr z x1 0 Q))
theorem m_X5_count_137 : Cond.fieldLink RX5 137 "BackgroundRebuildModel" "length" "I" ∈ wsX5_count := by decide +kernel
theorem m_X5_count_55 : Cond.fieldLink RX5 55 "BackgroundRebuildModel" "savedMany" "I" ∈ wsX5_count := by decide +kernel
theorem m_X5_count_7 : Cond.fieldLink RX5 7 "BackgroundRebuildModel" "z" "[I" ∈ wsX5_count := by decide +kernel
theorem i_X5_count_5 : ∀ w ∈ u_ws RX5 TX5 21, w ∈ wsX5_count := by decide +kernel
theorem ok_X5_count : yX5_count.cls = RX5 ∧ yX5_count.cls ≠ "java/lang/invoke/MethodHandle" ∧ yX5_count.cls ≠ "java/lang/invoke/VarHandle" ∧ (parseMethodDescriptor yX5_count.desc).map (fun d => d.parameters.length) = some 1 := by decide +kernel
set_option maxHeartbeats 4000000 in
set_option maxRecDepth 100000 in
theorem met_X5_count (l : Launch) (D : va_G) (t : Nat → ClassId) (hM : Nat) (zA : Nat) (spA : Nat) (svA : Nat) (soA : Nat) (ikA : Nat) (txA : Nat) (viA : Nat) (srA : Nat) (frA : Nat) (toA : Nat) (hoA : Nat) (keA : Nat) (nsv : Int) (len : Int) (thr : Int) (nvi : Int) (low : Int) (high : Int) (nto : Int) (spo : Int) (mos : Int) (z : Nat → Int) (sp : Nat → Int) (sv : Nat → Int) (so : Nat → Int) (ik : Nat → Int) (tx : Nat → Int) (vi : Nat → Int) (sr : Nat → Int) (fr : Nat → Int) (to : Nat → Int) (ho : Nat → Int) (ke : Nat → Int) (x1 : Int) (Q : Int → (Int) → Prop) (hv : wp_X5_count nsv len thr z x1 Q) : MI l D t yX5_count wsX5_count rm_X5_count [.ref hM, .int (iI x1)] [oB hM 5 [.ref zA, .ref spA, .ref svA, .int (iI nsv), .ref soA, .ref ikA, .ref txA, .int (iI len), .int (iI thr), .int (iI nvi), .ref viA, .int (iI low), .int (iI high), .ref srA, .ref frA, .ref toA, .ref hoA, .ref keA, .int (iI nto), .int (iI spo), .int (iI mos)], aI t zA 646 z, aI t spA 646 sp, aI t svA 3876 sv, aI t soA 1292 so, aZ t ikA 2 ik, aI t txA 60 tx, aI t viA 120 vi, aI t srA 120 sr, aI t frA 122 fr, aI t toA 122 to, aI t hoA 31 ho, aI t keA 31 ke] (W1_X5_count t hM zA spA svA soA ikA txA viA srA frA toA hoA keA nsv len nvi low high nto spo mos z sp sv so ik tx vi sr fr to ho ke) (po_X5_count Q) 0 0 := by
  refine M_ofi (cc := cX5_count) (nL := 2) (by decide) rfl (Nat.le_of_ble_eq_true rfl) ?_
  intro p e s m args below meth c A hc hr
  have C_16 : ∀ (nsv : Int) (len : Int) (thr : Int) (z : Nat → Int) (x1 : Int) (s0 : Int), wp_X5_count_16 nsv len thr z x1 s0 Q → V p l e rm_X5_count s m args below meth c D A 2 0 0 (MQ below (QI D A (W1_X5_count t hM zA spA svA soA ikA txA viA srA frA toA hoA keA nsv len nvi low high nto spo mos z sp sv so ik tx vi sr fr to ho ke) (po_X5_count Q)) args s 0 0 A) 16 [(0, .ref hM), (1, .int (iI x1))] [.int (iI s0), .ref hM] [oB hM 5 [.ref zA, .ref spA, .ref svA, .int (iI nsv), .ref soA, .ref ikA, .ref txA, .int (iI len), .int (iI thr), .int (iI nvi), .ref viA, .int (iI low), .int (iI high), .ref srA, .ref frA, .ref toA, .ref hoA, .ref keA, .int (iI nto), .int (iI spo), .int (iI mos)], aI t zA 646 z, aI t spA 646 sp, aI t svA 3876 sv, aI t soA 1292 so, aZ t ikA 2 ik, aI t txA 60 tx, aI t viA 120 vi, aI t srA 120 sr, aI t frA 122 fr, aI t toA 122 to, aI t hoA 31 ho, aI t keA 31 ke] := by
    intro nsv len thr z x1 s0 hv
    unfold wp_X5_count_16 at hv
    refine V_callVI (As := [.int (iI s0)]) hc (wc := [oB hM 5 [.ref zA, .ref spA, .ref svA, .int (iI nsv), .ref soA, .ref ikA, .ref txA, .int (iI len), .int (iI thr), .int (iI nvi), .ref viA, .int (iI low), .int (iI high), .ref srA, .ref frA, .ref toA, .ref hoA, .ref keA, .int (iI nto), .int (iI spo), .int (iI mos)], aI t zA 646 z, aI t spA 646 sp, aI t svA 3876 sv, aI t soA 1292 so, aZ t ikA 2 ik, aI t txA 60 tx, aI t viA 120 vi, aI t srA 120 sr, aI t frA 122 fr, aI t toA 122 to, aI t hoA 31 ho, aI t keA 31 ke]) (wr := []) (pmI [0, 1, 2, 3, 4, 5, 6, 7, 8, 9, 10, 11, 12] 13 rfl (by decide +kernel) rfl) rfl rfl (met_X5_refused l D t hM zA spA svA soA ikA txA viA srA frA toA hoA keA nsv len thr nvi low high nto spo mos z sp sv so ik tx vi sr fr to ho ke s0 _ hv) rfl gX5_count_X5_refused rfl ⟨rfl, rfl⟩ ok_X5_refused (by decide) (Nat.le_of_ble_eq_true rfl) dX5_count_16 (by decide) (fun r_2 u9 hv => ?_)
    obtain ⟨thr_2, h9⟩ : ∃ z, z = u9 := ⟨_, rfl⟩
    subst h9
    try dsimp only at hv
    refine V_perm (ws1 := [oB hM 5 [.ref zA, .ref spA, .ref svA, .int (iI nsv), .ref soA, .ref ikA, .ref txA, .int (iI len), .int (iI thr_2), .int (iI nvi), .ref viA, .int (iI low), .int (iI high), .ref srA, .ref frA, .ref toA, .ref hoA, .ref keA, .int (iI nto), .int (iI spo), .int (iI mos)], aI t zA 646 z, aI t spA 646 sp, aI t svA 3876 sv, aI t soA 1292 so, aZ t ikA 2 ik, aI t txA 60 tx, aI t viA 120 vi, aI t srA 120 sr, aI t frA 122 fr, aI t toA 122 to, aI t hoA 31 ho, aI t keA 31 ke]) (pmI [0, 1, 2, 3, 4, 5, 6, 7, 8, 9, 10, 11, 12] 13 rfl (by decide +kernel) rfl) ?_
    refine V_if_eq (tgt := 24) hc dX5_count_19 (by decide) hv (fun hv => ?_) (fun hv => ?_)
    · refine V_iload_n hc dX5_count_24 1 rfl ?_
      refine V_bipush hc dX5_count_25 (by decide) ?_
      refine V_icmp_ge (tgt := 43) hc dX5_count_27 (by decide) ⟨hv.1, by decide, hv.2⟩ (fun hv => ?_) (fun hv => ?_)
      · refine V_iload_n hc dX5_count_43 1 rfl ?_
        refine V_bipush hc dX5_count_44 (by decide) ?_
        refine V_icmp_ne (tgt := 56) hc dX5_count_46 (by decide) ⟨hv.1, by decide, hv.2⟩ (fun hv => ?_) (fun hv => ?_)
        · refine V_aload_n hc dX5_count_56 0 rfl ?_
          refine V_get (C := RX5) (T := TX5) (N := 21) hc i_X5_count_5 0 rfl rfl 7 (by decide) m_X5_count_137 rfl dX5_count_57 ?_
          exact V_iret hc hr thr_2 hv rfl dX5_count_60
        · refine V_aload_n hc dX5_count_49 0 rfl ?_
          refine V_get (C := RX5) (T := TX5) (N := 21) hc i_X5_count_5 0 rfl rfl 3 (by decide) m_X5_count_55 rfl dX5_count_50 ?_
          refine V_goto (tgt := 60) hc dX5_count_53 (by decide) ?_
          exact V_iret hc hr thr_2 hv rfl dX5_count_60
      · refine V_aload_n hc dX5_count_30 0 rfl ?_
        refine V_get (C := RX5) (T := TX5) (N := 21) hc i_X5_count_5 0 rfl rfl 0 (by decide) m_X5_count_7 rfl dX5_count_31 ?_
        refine V_sipush hc dX5_count_34 (by decide) ?_
        refine V_iload_n hc dX5_count_37 1 rfl ?_
        refine V_iadd hc dX5_count_38 ?_
        refine V_iald hc 1 rfl (by decide) hv dX5_count_39 (fun hv => ?_)
        refine V_goto (tgt := 60) hc dX5_count_40 (by decide) ?_
        exact V_iret hc hr thr_2 hv rfl dX5_count_60
    · refine V_iconst hc dX5_count_22 ?_
      exact V_iret hc hr thr_2 hv rfl dX5_count_23
  refine V_lv [0, 1] [(0, .ref hM), (1, .int (iI x1))] rfl ?_
  unfold wp_X5_count at hv
  refine V_aload_n hc dX5_count_0 0 rfl ?_
  refine V_iload_n hc dX5_count_1 1 rfl ?_
  refine V_iconst hc dX5_count_2 ?_
  refine V_bipush hc dX5_count_3 (by decide) ?_
  refine V_callSI (As := [.int (iI x1), .int (iI 0), .int (iI 8)]) hc (wc := []) (wr := [oB hM 5 [.ref zA, .ref spA, .ref svA, .int (iI nsv), .ref soA, .ref ikA, .ref txA, .int (iI len), .int (iI thr), .int (iI nvi), .ref viA, .int (iI low), .int (iI high), .ref srA, .ref frA, .ref toA, .ref hoA, .ref keA, .int (iI nto), .int (iI spo), .int (iI mos)], aI t zA 646 z, aI t spA 646 sp, aI t svA 3876 sv, aI t soA 1292 so, aZ t ikA 2 ik, aI t txA 60 tx, aI t viA 120 vi, aI t srA 120 sr, aI t frA 122 fr, aI t toA 122 to, aI t hoA 31 ho, aI t keA 31 ke]) (pmI [0, 1, 2, 3, 4, 5, 6, 7, 8, 9, 10, 11, 12] 13 rfl (by decide +kernel) rfl) (met_X5_in l D t x1 0 8 _ hv) rfl gX5_count_X5_in rfl ⟨rfl, rfl⟩ ok_X5_in (by decide) (Nat.le_of_ble_eq_true rfl) dX5_count_5 (by decide) (fun r_1 _ hv => ?_)
  try dsimp only at hv
  refine V_perm (ws1 := [oB hM 5 [.ref zA, .ref spA, .ref svA, .int (iI nsv), .ref soA, .ref ikA, .ref txA, .int (iI len), .int (iI thr), .int (iI nvi), .ref viA, .int (iI low), .int (iI high), .ref srA, .ref frA, .ref toA, .ref hoA, .ref keA, .int (iI nto), .int (iI spo), .int (iI mos)], aI t zA 646 z, aI t spA 646 sp, aI t svA 3876 sv, aI t soA 1292 so, aZ t ikA 2 ik, aI t txA 60 tx, aI t viA 120 vi, aI t srA 120 sr, aI t frA 122 fr, aI t toA 122 to, aI t hoA 31 ho, aI t keA 31 ke]) (pmI [0, 1, 2, 3, 4, 5, 6, 7, 8, 9, 10, 11, 12] 13 rfl (by decide +kernel) rfl) ?_
  refine V_if_eq (tgt := 15) hc dX5_count_8 (by decide) hv (fun hv => ?_) (fun hv => ?_)
  · refine V_iconst hc dX5_count_15 ?_
    exact C_16 nsv len thr z x1 1 hv
  · refine V_iconst hc dX5_count_11 ?_
    refine V_goto (tgt := 16) hc dX5_count_12 (by decide) ?_
    exact C_16 nsv len thr z x1 0 hv
abbrev W1_X5_setting (t : Nat → ClassId) (hM : Nat) (zA : Nat) (spA : Nat) (svA : Nat) (soA : Nat) (ikA : Nat) (txA : Nat) (viA : Nat) (srA : Nat) (frA : Nat) (toA : Nat) (hoA : Nat) (keA : Nat) (nsv : Int) (len : Int) (nvi : Int) (low : Int) (high : Int) (nto : Int) (spo : Int) (mos : Int) (z : Nat → Int) (sp : Nat → Int) (sv : Nat → Int) (so : Nat → Int) (ik : Nat → Int) (tx : Nat → Int) (vi : Nat → Int) (sr : Nat → Int) (fr : Nat → Int) (to : Nat → Int) (ho : Nat → Int) (ke : Nat → Int) (u : (Int)) : va_W := [oB hM 5 [.ref zA, .ref spA, .ref svA, .int (iI nsv), .ref soA, .ref ikA, .ref txA, .int (iI len), .int (iI u), .int (iI nvi), .ref viA, .int (iI low), .int (iI high), .ref srA, .ref frA, .ref toA, .ref hoA, .ref keA, .int (iI nto), .int (iI spo), .int (iI mos)], aI t zA 646 z, aI t spA 646 sp, aI t svA 3876 sv, aI t soA 1292 so, aZ t ikA 2 ik, aI t txA 60 tx, aI t viA 120 vi, aI t srA 120 sr, aI t frA 122 fr, aI t toA 122 to, aI t hoA 31 ho, aI t keA 31 ke]
abbrev po_X5_setting (Q : Int → (Int) → Prop) (r : Int) (u : (Int)) : Prop := Q r u
abbrev rm_X5_setting : Room := { frames := 1, cells := 0, slots := 0, locals := 22 }
def wp_X5_setting_15 (thr : Int) (z : Nat → Int) (x1 : Int) (s0 : Int) (Q : Int → (Int) → Prop) : Prop := wp_X5_refused thr s0 (fun r_2 thr_2 => inR r_2 ∧ (r_2 = 0 → (0 ≤ 636 + x1 ∧ 636 + x1 < 646) ∧ Q (z (636 + x1).toNat) thr_2) ∧ (¬ (r_2 = 0) → Q 0 thr_2))
def wp_X5_setting (thr : Int) (z : Nat → Int) (x1 : Int) (Q : Int → (Int) → Prop) : Prop := wp_X5_in x1 0 2 (fun r_1 => inR r_1 ∧ (r_1 = 0 → wp_X5_setting_15 thr z x1 1 Q) ∧ (¬ (r_1 = 0) → wp_X5_setting_15 thr z x1 0 Q))
theorem m_X5_setting_7 : Cond.fieldLink RX5 7 "BackgroundRebuildModel" "z" "[I" ∈ wsX5_setting := by decide +kernel
theorem i_X5_setting_5 : ∀ w ∈ u_ws RX5 TX5 21, w ∈ wsX5_setting := by decide +kernel
theorem ok_X5_setting : yX5_setting.cls = RX5 ∧ yX5_setting.cls ≠ "java/lang/invoke/MethodHandle" ∧ yX5_setting.cls ≠ "java/lang/invoke/VarHandle" ∧ (parseMethodDescriptor yX5_setting.desc).map (fun d => d.parameters.length) = some 1 := by decide +kernel
set_option maxHeartbeats 4000000 in
set_option maxRecDepth 100000 in
theorem met_X5_setting (l : Launch) (D : va_G) (t : Nat → ClassId) (hM : Nat) (zA : Nat) (spA : Nat) (svA : Nat) (soA : Nat) (ikA : Nat) (txA : Nat) (viA : Nat) (srA : Nat) (frA : Nat) (toA : Nat) (hoA : Nat) (keA : Nat) (nsv : Int) (len : Int) (thr : Int) (nvi : Int) (low : Int) (high : Int) (nto : Int) (spo : Int) (mos : Int) (z : Nat → Int) (sp : Nat → Int) (sv : Nat → Int) (so : Nat → Int) (ik : Nat → Int) (tx : Nat → Int) (vi : Nat → Int) (sr : Nat → Int) (fr : Nat → Int) (to : Nat → Int) (ho : Nat → Int) (ke : Nat → Int) (x1 : Int) (Q : Int → (Int) → Prop) (hv : wp_X5_setting thr z x1 Q) : MI l D t yX5_setting wsX5_setting rm_X5_setting [.ref hM, .int (iI x1)] [oB hM 5 [.ref zA, .ref spA, .ref svA, .int (iI nsv), .ref soA, .ref ikA, .ref txA, .int (iI len), .int (iI thr), .int (iI nvi), .ref viA, .int (iI low), .int (iI high), .ref srA, .ref frA, .ref toA, .ref hoA, .ref keA, .int (iI nto), .int (iI spo), .int (iI mos)], aI t zA 646 z, aI t spA 646 sp, aI t svA 3876 sv, aI t soA 1292 so, aZ t ikA 2 ik, aI t txA 60 tx, aI t viA 120 vi, aI t srA 120 sr, aI t frA 122 fr, aI t toA 122 to, aI t hoA 31 ho, aI t keA 31 ke] (W1_X5_setting t hM zA spA svA soA ikA txA viA srA frA toA hoA keA nsv len nvi low high nto spo mos z sp sv so ik tx vi sr fr to ho ke) (po_X5_setting Q) 0 0 := by
  refine M_ofi (cc := cX5_setting) (nL := 2) (by decide) rfl (Nat.le_of_ble_eq_true rfl) ?_
  intro p e s m args below meth c A hc hr
  have C_15 : ∀ (thr : Int) (z : Nat → Int) (x1 : Int) (s0 : Int), wp_X5_setting_15 thr z x1 s0 Q → V p l e rm_X5_setting s m args below meth c D A 2 0 0 (MQ below (QI D A (W1_X5_setting t hM zA spA svA soA ikA txA viA srA frA toA hoA keA nsv len nvi low high nto spo mos z sp sv so ik tx vi sr fr to ho ke) (po_X5_setting Q)) args s 0 0 A) 15 [(0, .ref hM), (1, .int (iI x1))] [.int (iI s0), .ref hM] [oB hM 5 [.ref zA, .ref spA, .ref svA, .int (iI nsv), .ref soA, .ref ikA, .ref txA, .int (iI len), .int (iI thr), .int (iI nvi), .ref viA, .int (iI low), .int (iI high), .ref srA, .ref frA, .ref toA, .ref hoA, .ref keA, .int (iI nto), .int (iI spo), .int (iI mos)], aI t zA 646 z, aI t spA 646 sp, aI t svA 3876 sv, aI t soA 1292 so, aZ t ikA 2 ik, aI t txA 60 tx, aI t viA 120 vi, aI t srA 120 sr, aI t frA 122 fr, aI t toA 122 to, aI t hoA 31 ho, aI t keA 31 ke] := by
    intro thr z x1 s0 hv
    unfold wp_X5_setting_15 at hv
    refine V_callVI (As := [.int (iI s0)]) hc (wc := [oB hM 5 [.ref zA, .ref spA, .ref svA, .int (iI nsv), .ref soA, .ref ikA, .ref txA, .int (iI len), .int (iI thr), .int (iI nvi), .ref viA, .int (iI low), .int (iI high), .ref srA, .ref frA, .ref toA, .ref hoA, .ref keA, .int (iI nto), .int (iI spo), .int (iI mos)], aI t zA 646 z, aI t spA 646 sp, aI t svA 3876 sv, aI t soA 1292 so, aZ t ikA 2 ik, aI t txA 60 tx, aI t viA 120 vi, aI t srA 120 sr, aI t frA 122 fr, aI t toA 122 to, aI t hoA 31 ho, aI t keA 31 ke]) (wr := []) (pmI [0, 1, 2, 3, 4, 5, 6, 7, 8, 9, 10, 11, 12] 13 rfl (by decide +kernel) rfl) rfl rfl (met_X5_refused l D t hM zA spA svA soA ikA txA viA srA frA toA hoA keA nsv len thr nvi low high nto spo mos z sp sv so ik tx vi sr fr to ho ke s0 _ hv) rfl gX5_setting_X5_refused rfl ⟨rfl, rfl⟩ ok_X5_refused (by decide) (Nat.le_of_ble_eq_true rfl) dX5_setting_15 (by decide) (fun r_2 u9 hv => ?_)
    obtain ⟨thr_2, h9⟩ : ∃ z, z = u9 := ⟨_, rfl⟩
    subst h9
    try dsimp only at hv
    refine V_perm (ws1 := [oB hM 5 [.ref zA, .ref spA, .ref svA, .int (iI nsv), .ref soA, .ref ikA, .ref txA, .int (iI len), .int (iI thr_2), .int (iI nvi), .ref viA, .int (iI low), .int (iI high), .ref srA, .ref frA, .ref toA, .ref hoA, .ref keA, .int (iI nto), .int (iI spo), .int (iI mos)], aI t zA 646 z, aI t spA 646 sp, aI t svA 3876 sv, aI t soA 1292 so, aZ t ikA 2 ik, aI t txA 60 tx, aI t viA 120 vi, aI t srA 120 sr, aI t frA 122 fr, aI t toA 122 to, aI t hoA 31 ho, aI t keA 31 ke]) (pmI [0, 1, 2, 3, 4, 5, 6, 7, 8, 9, 10, 11, 12] 13 rfl (by decide +kernel) rfl) ?_
    refine V_if_eq (tgt := 25) hc dX5_setting_18 (by decide) hv (fun hv => ?_) (fun hv => ?_)
    · refine V_aload_n hc dX5_setting_25 0 rfl ?_
      refine V_get (C := RX5) (T := TX5) (N := 21) hc i_X5_setting_5 0 rfl rfl 0 (by decide) m_X5_setting_7 rfl dX5_setting_26 ?_
      refine V_sipush hc dX5_setting_29 (by decide) ?_
      refine V_iload_n hc dX5_setting_32 1 rfl ?_
      refine V_iadd hc dX5_setting_33 ?_
      refine V_iald hc 1 rfl (by decide) hv dX5_setting_34 (fun hv => ?_)
      exact V_iret hc hr thr_2 hv rfl dX5_setting_35
    · refine V_iconst hc dX5_setting_21 ?_
      refine V_goto (tgt := 35) hc dX5_setting_22 (by decide) ?_
      exact V_iret hc hr thr_2 hv rfl dX5_setting_35
  refine V_lv [0, 1] [(0, .ref hM), (1, .int (iI x1))] rfl ?_
  unfold wp_X5_setting at hv
  refine V_aload_n hc dX5_setting_0 0 rfl ?_
  refine V_iload_n hc dX5_setting_1 1 rfl ?_
  refine V_iconst hc dX5_setting_2 ?_
  refine V_iconst hc dX5_setting_3 ?_
  refine V_callSI (As := [.int (iI x1), .int (iI 0), .int (iI 2)]) hc (wc := []) (wr := [oB hM 5 [.ref zA, .ref spA, .ref svA, .int (iI nsv), .ref soA, .ref ikA, .ref txA, .int (iI len), .int (iI thr), .int (iI nvi), .ref viA, .int (iI low), .int (iI high), .ref srA, .ref frA, .ref toA, .ref hoA, .ref keA, .int (iI nto), .int (iI spo), .int (iI mos)], aI t zA 646 z, aI t spA 646 sp, aI t svA 3876 sv, aI t soA 1292 so, aZ t ikA 2 ik, aI t txA 60 tx, aI t viA 120 vi, aI t srA 120 sr, aI t frA 122 fr, aI t toA 122 to, aI t hoA 31 ho, aI t keA 31 ke]) (pmI [0, 1, 2, 3, 4, 5, 6, 7, 8, 9, 10, 11, 12] 13 rfl (by decide +kernel) rfl) (met_X5_in l D t x1 0 2 _ hv) rfl gX5_setting_X5_in rfl ⟨rfl, rfl⟩ ok_X5_in (by decide) (Nat.le_of_ble_eq_true rfl) dX5_setting_4 (by decide) (fun r_1 _ hv => ?_)
  try dsimp only at hv
  refine V_perm (ws1 := [oB hM 5 [.ref zA, .ref spA, .ref svA, .int (iI nsv), .ref soA, .ref ikA, .ref txA, .int (iI len), .int (iI thr), .int (iI nvi), .ref viA, .int (iI low), .int (iI high), .ref srA, .ref frA, .ref toA, .ref hoA, .ref keA, .int (iI nto), .int (iI spo), .int (iI mos)], aI t zA 646 z, aI t spA 646 sp, aI t svA 3876 sv, aI t soA 1292 so, aZ t ikA 2 ik, aI t txA 60 tx, aI t viA 120 vi, aI t srA 120 sr, aI t frA 122 fr, aI t toA 122 to, aI t hoA 31 ho, aI t keA 31 ke]) (pmI [0, 1, 2, 3, 4, 5, 6, 7, 8, 9, 10, 11, 12] 13 rfl (by decide +kernel) rfl) ?_
  refine V_if_eq (tgt := 14) hc dX5_setting_7 (by decide) hv (fun hv => ?_) (fun hv => ?_)
  · refine V_iconst hc dX5_setting_14 ?_
    exact C_15 thr z x1 1 hv
  · refine V_iconst hc dX5_setting_10 ?_
    refine V_goto (tgt := 15) hc dX5_setting_11 (by decide) ?_
    exact C_15 thr z x1 0 hv
abbrev W1_X5_calls (t : Nat → ClassId) (hM : Nat) (zA : Nat) (spA : Nat) (svA : Nat) (soA : Nat) (ikA : Nat) (txA : Nat) (viA : Nat) (srA : Nat) (frA : Nat) (toA : Nat) (hoA : Nat) (keA : Nat) (nsv : Int) (len : Int) (thr : Int) (nto : Int) (spo : Int) (sv : Nat → Int) (so : Nat → Int) (ik : Nat → Int) (tx : Nat → Int) (ho : Nat → Int) (ke : Nat → Int) (u : (Int) × (Int) × (Int) × (Int) × (Nat → Int) × (Nat → Int) × (Nat → Int) × (Nat → Int) × (Nat → Int) × (Nat → Int)) : va_W := [oB hM 5 [.ref zA, .ref spA, .ref svA, .int (iI nsv), .ref soA, .ref ikA, .ref txA, .int (iI len), .int (iI thr), .int (iI u.1), .ref viA, .int (iI u.2.1), .int (iI u.2.2.1), .ref srA, .ref frA, .ref toA, .ref hoA, .ref keA, .int (iI nto), .int (iI spo), .int (iI u.2.2.2.1)], aI t zA 646 u.2.2.2.2.1, aI t spA 646 u.2.2.2.2.2.1, aI t svA 3876 sv, aI t soA 1292 so, aZ t ikA 2 ik, aI t txA 60 tx, aI t viA 120 u.2.2.2.2.2.2.1, aI t srA 120 u.2.2.2.2.2.2.2.1, aI t frA 122 u.2.2.2.2.2.2.2.2.1, aI t toA 122 u.2.2.2.2.2.2.2.2.2, aI t hoA 31 ho, aI t keA 31 ke]
abbrev po_X5_calls (Q : Int → (Int) → (Int) → (Int) → (Int) → (Nat → Int) → (Nat → Int) → (Nat → Int) → (Nat → Int) → (Nat → Int) → (Nat → Int) → Prop) (r : Int) (u : (Int) × (Int) × (Int) × (Int) × (Nat → Int) × (Nat → Int) × (Nat → Int) × (Nat → Int) × (Nat → Int) × (Nat → Int)) : Prop := Q r u.1 u.2.1 u.2.2.1 u.2.2.2.1 u.2.2.2.2.1 u.2.2.2.2.2.1 u.2.2.2.2.2.2.1 u.2.2.2.2.2.2.2.1 u.2.2.2.2.2.2.2.2.1 u.2.2.2.2.2.2.2.2.2
abbrev rm_X5_calls : Room := { frames := 5, cells := 0, slots := 0, locals := 117 }
def wp_X5_calls_38 (sp : Nat → Int) (x2 : Int) (Q : Int → (Int) → (Int) → (Int) → (Int) → (Nat → Int) → (Nat → Int) → (Nat → Int) → (Nat → Int) → (Nat → Int) → (Nat → Int) → Prop) (K_38 : (Int) → (Int) → (Int) → (Int) → (Nat → Int) → (Nat → Int) → (Nat → Int) → (Nat → Int) → (Nat → Int) → Int → Prop) (nvi : Int) (low : Int) (high : Int) (mos : Int) (z : Nat → Int) (vi : Nat → Int) (sr : Nat → Int) (fr : Nat → Int) (to : Nat → Int) (x3 : Int) : Prop := inR (z 644) ∧ inR x2 ∧ (z 644 ≠ x2 → wp_X5_copyState 646 646 sp z 0 0 (fun z_2 => Q x3 nvi low high mos z_2 sp vi sr fr to)) ∧ (¬ (z 644 ≠ x2) → wp_X5_act nvi low high z vi sr fr to 2 0 (fun r_3 nvi_3 low_3 high_3 z_3 vi_3 sr_3 fr_3 to_3 => inR r_3 ∧ inR mos ∧ (r_3 ≤ mos → K_38 nvi_3 low_3 high_3 mos z_3 vi_3 sr_3 fr_3 to_3 (x3 + 1)) ∧ (¬ (r_3 ≤ mos) → K_38 nvi_3 low_3 high_3 r_3 z_3 vi_3 sr_3 fr_3 to_3 (x3 + 1))))
def wp_X5_calls (nvi : Int) (low : Int) (high : Int) (mos : Int) (z : Nat → Int) (sp : Nat → Int) (vi : Nat → Int) (sr : Nat → Int) (fr : Nat → Int) (to : Nat → Int) (x1 : Int) (Q : Int → (Int) → (Int) → (Int) → (Int) → (Nat → Int) → (Nat → Int) → (Nat → Int) → (Nat → Int) → (Nat → Int) → (Nat → Int) → Prop) : Prop := wp_X5_copyState 646 646 z sp 0 0 (fun sp_1 => (∃ n, lq10 (wp_X5_calls_38 sp_1 ((uI z 638 x1) 644) Q) n nvi low high 0 (uI z 638 x1) vi sr fr to 0))
theorem m_X5_calls_7 : Cond.fieldLink RX5 7 "BackgroundRebuildModel" "z" "[I" ∈ wsX5_calls := by decide +kernel
theorem m_X5_calls_13 : Cond.fieldLink RX5 13 "BackgroundRebuildModel" "spare" "[I" ∈ wsX5_calls := by decide +kernel
theorem m_X5_calls_200 : Cond.fieldLink RX5 200 "BackgroundRebuildModel" "mostWork" "I" ∈ wsX5_calls := by decide +kernel
theorem i_X5_calls_5 : ∀ w ∈ u_ws RX5 TX5 21, w ∈ wsX5_calls := by decide +kernel
theorem ok_X5_calls : yX5_calls.cls = RX5 ∧ yX5_calls.cls ≠ "java/lang/invoke/MethodHandle" ∧ yX5_calls.cls ≠ "java/lang/invoke/VarHandle" ∧ (parseMethodDescriptor yX5_calls.desc).map (fun d => d.parameters.length) = some 1 := by decide +kernel
set_option maxHeartbeats 4000000 in
set_option maxRecDepth 100000 in
theorem met_X5_calls (l : Launch) (D : va_G) (t : Nat → ClassId) (hM : Nat) (zA : Nat) (spA : Nat) (svA : Nat) (soA : Nat) (ikA : Nat) (txA : Nat) (viA : Nat) (srA : Nat) (frA : Nat) (toA : Nat) (hoA : Nat) (keA : Nat) (nsv : Int) (len : Int) (thr : Int) (nvi : Int) (low : Int) (high : Int) (nto : Int) (spo : Int) (mos : Int) (z : Nat → Int) (sp : Nat → Int) (sv : Nat → Int) (so : Nat → Int) (ik : Nat → Int) (tx : Nat → Int) (vi : Nat → Int) (sr : Nat → Int) (fr : Nat → Int) (to : Nat → Int) (ho : Nat → Int) (ke : Nat → Int) (x1 : Int) (Q : Int → (Int) → (Int) → (Int) → (Int) → (Nat → Int) → (Nat → Int) → (Nat → Int) → (Nat → Int) → (Nat → Int) → (Nat → Int) → Prop) (hv : wp_X5_calls nvi low high mos z sp vi sr fr to x1 Q) : MI l D t yX5_calls wsX5_calls rm_X5_calls [.ref hM, .int (iI x1)] [oB hM 5 [.ref zA, .ref spA, .ref svA, .int (iI nsv), .ref soA, .ref ikA, .ref txA, .int (iI len), .int (iI thr), .int (iI nvi), .ref viA, .int (iI low), .int (iI high), .ref srA, .ref frA, .ref toA, .ref hoA, .ref keA, .int (iI nto), .int (iI spo), .int (iI mos)], aI t zA 646 z, aI t spA 646 sp, aI t svA 3876 sv, aI t soA 1292 so, aZ t ikA 2 ik, aI t txA 60 tx, aI t viA 120 vi, aI t srA 120 sr, aI t frA 122 fr, aI t toA 122 to, aI t hoA 31 ho, aI t keA 31 ke] (W1_X5_calls t hM zA spA svA soA ikA txA viA srA frA toA hoA keA nsv len thr nto spo sv so ik tx ho ke) (po_X5_calls Q) 0 0 := by
  refine M_ofi (cc := cX5_calls) (nL := 5) (by decide) rfl (Nat.le_of_ble_eq_true rfl) ?_
  intro p e s m args below meth c A hc hr
  have L_38 : ∀ (sp : Nat → Int) (x2 : Int) (n9 : Nat) (nvi : Int) (low : Int) (high : Int) (mos : Int) (z : Nat → Int) (vi : Nat → Int) (sr : Nat → Int) (fr : Nat → Int) (to : Nat → Int) (x3 : Int), lq10 (wp_X5_calls_38 sp x2 Q) n9 nvi low high mos z vi sr fr to x3 → V p l e rm_X5_calls s m args below meth c D A 5 0 0 (MQ below (QI D A (W1_X5_calls t hM zA spA svA soA ikA txA viA srA frA toA hoA keA nsv len thr nto spo sv so ik tx ho ke) (po_X5_calls Q)) args s 0 0 A) 38 [(0, .ref hM), (2, .int (iI x2)), (3, .int (iI x3))] [] [oB hM 5 [.ref zA, .ref spA, .ref svA, .int (iI nsv), .ref soA, .ref ikA, .ref txA, .int (iI len), .int (iI thr), .int (iI nvi), .ref viA, .int (iI low), .int (iI high), .ref srA, .ref frA, .ref toA, .ref hoA, .ref keA, .int (iI nto), .int (iI spo), .int (iI mos)], aI t zA 646 z, aI t spA 646 sp, aI t svA 3876 sv, aI t soA 1292 so, aZ t ikA 2 ik, aI t txA 60 tx, aI t viA 120 vi, aI t srA 120 sr, aI t frA 122 fr, aI t toA 122 to, aI t hoA 31 ho, aI t keA 31 ke] := by
    intro sp x2 n9
    induction n9 with
    | zero =>
      intro nvi low high mos z vi sr fr to x3 hv
      exact hv.elim
    | succ n9 ih =>
      intro nvi low high mos z vi sr fr to x3 hv
      have hv : wp_X5_calls_38 sp x2 Q (lq10 (wp_X5_calls_38 sp x2 Q) n9) nvi low high mos z vi sr fr to x3 := hv
      generalize lq10 (wp_X5_calls_38 sp x2 Q) n9 = K_38 at hv ih
      have hK_38 := ih
      unfold wp_X5_calls_38 at hv
      refine V_aload_n hc dX5_calls_38 0 rfl ?_
      refine V_get (C := RX5) (T := TX5) (N := 21) hc i_X5_calls_5 0 rfl rfl 0 (by decide) m_X5_calls_7 rfl dX5_calls_39 ?_
      refine V_sipush hc dX5_calls_42 (by decide) ?_
      refine V_iald hc 1 rfl (by decide) ⟨by decide, hv⟩ dX5_calls_45 (fun hv => ?_)
      refine V_iload_n hc dX5_calls_46 1 rfl ?_
      refine V_icmp_ne (tgt := 86) hc dX5_calls_47 (by decide) hv (fun hv => ?_) (fun hv => ?_)
      · refine V_aload_n hc dX5_calls_86 0 rfl ?_
        refine V_get (C := RX5) (T := TX5) (N := 21) hc i_X5_calls_5 0 rfl rfl 1 (by decide) m_X5_calls_13 rfl dX5_calls_87 ?_
        refine V_iconst hc dX5_calls_90 ?_
        refine V_aload_n hc dX5_calls_91 0 rfl ?_
        refine V_get (C := RX5) (T := TX5) (N := 21) hc i_X5_calls_5 0 rfl rfl 0 (by decide) m_X5_calls_7 rfl dX5_calls_92 ?_
        refine V_iconst hc dX5_calls_95 ?_
        refine V_callSV (As := [.ref spA, .int (iI 0), .ref zA, .int (iI 0)]) hc (wc := [aI t spA 646 sp, aI t zA 646 z]) (wr := [oB hM 5 [.ref zA, .ref spA, .ref svA, .int (iI nsv), .ref soA, .ref ikA, .ref txA, .int (iI len), .int (iI thr), .int (iI nvi), .ref viA, .int (iI low), .int (iI high), .ref srA, .ref frA, .ref toA, .ref hoA, .ref keA, .int (iI nto), .int (iI spo), .int (iI mos)], aI t svA 3876 sv, aI t soA 1292 so, aZ t ikA 2 ik, aI t txA 60 tx, aI t viA 120 vi, aI t srA 120 sr, aI t frA 122 fr, aI t toA 122 to, aI t hoA 31 ho, aI t keA 31 ke]) (pmI [2, 1, 0, 3, 4, 5, 6, 7, 8, 9, 10, 11, 12] 13 rfl (by decide +kernel) rfl) (met_X5_copyState l D t spA zA 646 646 (by decide) (by decide) sp z 0 0 _ hv) rfl gX5_calls_X5_copyState rfl ⟨rfl, rfl⟩ ok_X5_copyState (by decide) (Nat.le_of_ble_eq_true rfl) dX5_calls_96 (by decide) (fun u9 hv => ?_)
        obtain ⟨z_2, h9⟩ : ∃ z, z = u9 := ⟨_, rfl⟩
        subst h9
        try dsimp only at hv
        refine V_perm (ws1 := [oB hM 5 [.ref zA, .ref spA, .ref svA, .int (iI nsv), .ref soA, .ref ikA, .ref txA, .int (iI len), .int (iI thr), .int (iI nvi), .ref viA, .int (iI low), .int (iI high), .ref srA, .ref frA, .ref toA, .ref hoA, .ref keA, .int (iI nto), .int (iI spo), .int (iI mos)], aI t zA 646 z_2, aI t spA 646 sp, aI t svA 3876 sv, aI t soA 1292 so, aZ t ikA 2 ik, aI t txA 60 tx, aI t viA 120 vi, aI t srA 120 sr, aI t frA 122 fr, aI t toA 122 to, aI t hoA 31 ho, aI t keA 31 ke]) (pmI [2, 1, 0, 3, 4, 5, 6, 7, 8, 9, 10, 11, 12] 13 rfl (by decide +kernel) rfl) ?_
        refine V_iload_n hc dX5_calls_99 2 rfl ?_
        exact V_iret hc hr (nvi, low, high, mos, z_2, sp, vi, sr, fr, to) hv rfl dX5_calls_100
      · refine V_aload_n hc dX5_calls_50 0 rfl ?_
        refine V_iconst hc dX5_calls_51 ?_
        refine V_iconst hc dX5_calls_52 ?_
        refine V_callVI (As := [.int (iI 2), .int (iI 0)]) hc (wc := [oB hM 5 [.ref zA, .ref spA, .ref svA, .int (iI nsv), .ref soA, .ref ikA, .ref txA, .int (iI len), .int (iI thr), .int (iI nvi), .ref viA, .int (iI low), .int (iI high), .ref srA, .ref frA, .ref toA, .ref hoA, .ref keA, .int (iI nto), .int (iI spo), .int (iI mos)], aI t zA 646 z, aI t spA 646 sp, aI t svA 3876 sv, aI t soA 1292 so, aZ t ikA 2 ik, aI t txA 60 tx, aI t viA 120 vi, aI t srA 120 sr, aI t frA 122 fr, aI t toA 122 to, aI t hoA 31 ho, aI t keA 31 ke]) (wr := []) (pmI [0, 1, 2, 3, 4, 5, 6, 7, 8, 9, 10, 11, 12] 13 rfl (by decide +kernel) rfl) rfl rfl (met_X5_act l D t hM zA spA svA soA ikA txA viA srA frA toA hoA keA nsv len thr nvi low high nto spo mos z sp sv so ik tx vi sr fr to ho ke 2 0 _ hv) rfl gX5_calls_X5_act rfl ⟨rfl, rfl⟩ ok_X5_act (by decide) (Nat.le_of_ble_eq_true rfl) dX5_calls_53 (by decide) (fun r_3 u9 hv => ?_)
        obtain ⟨nvi_3, low_3, high_3, z_3, vi_3, sr_3, fr_3, to_3⟩ := u9
        try dsimp only at hv
        refine V_perm (ws1 := [oB hM 5 [.ref zA, .ref spA, .ref svA, .int (iI nsv), .ref soA, .ref ikA, .ref txA, .int (iI len), .int (iI thr), .int (iI nvi_3), .ref viA, .int (iI low_3), .int (iI high_3), .ref srA, .ref frA, .ref toA, .ref hoA, .ref keA, .int (iI nto), .int (iI spo), .int (iI mos)], aI t zA 646 z_3, aI t spA 646 sp, aI t svA 3876 sv, aI t soA 1292 so, aZ t ikA 2 ik, aI t txA 60 tx, aI t viA 120 vi_3, aI t srA 120 sr_3, aI t frA 122 fr_3, aI t toA 122 to_3, aI t hoA 31 ho, aI t keA 31 ke]) (pmI [0, 1, 2, 3, 4, 5, 6, 7, 8, 9, 10, 11, 12] 13 rfl (by decide +kernel) rfl) ?_
        refine V_istore hc dX5_calls_56 [(4, .int (iI r_3)), (0, .ref hM), (2, .int (iI x2)), (3, .int (iI x3))] (by decide) rfl ?_
        refine V_aload_n hc dX5_calls_58 1 rfl ?_
        refine V_iload hc dX5_calls_59 0 rfl ?_
        refine V_aload_n hc dX5_calls_61 1 rfl ?_
        refine V_get (C := RX5) (T := TX5) (N := 21) hc i_X5_calls_5 0 rfl rfl 20 (by decide) m_X5_calls_200 rfl dX5_calls_62 ?_
        refine V_icmp_le (tgt := 73) hc dX5_calls_65 (by decide) hv (fun hv => ?_) (fun hv => ?_)
        · refine V_aload_n hc dX5_calls_73 1 rfl ?_
          refine V_get (C := RX5) (T := TX5) (N := 21) hc i_X5_calls_5 0 rfl rfl 20 (by decide) m_X5_calls_200 rfl dX5_calls_74 ?_
          refine V_puti (C := RX5) (T := TX5) (N := 21) hc i_X5_calls_5 0 rfl rfl 20 (by decide) m_X5_calls_200 tyX5 tyX5_ok nmX5 rfl (by decide +kernel) (Nat.le_of_ble_eq_true rfl) dX5_calls_77 [oB hM 5 [.ref zA, .ref spA, .ref svA, .int (iI nsv), .ref soA, .ref ikA, .ref txA, .int (iI len), .int (iI thr), .int (iI nvi_3), .ref viA, .int (iI low_3), .int (iI high_3), .ref srA, .ref frA, .ref toA, .ref hoA, .ref keA, .int (iI nto), .int (iI spo), .int (iI mos)], aI t zA 646 z_3, aI t spA 646 sp, aI t svA 3876 sv, aI t soA 1292 so, aZ t ikA 2 ik, aI t txA 60 tx, aI t viA 120 vi_3, aI t srA 120 sr_3, aI t frA 122 fr_3, aI t toA 122 to_3, aI t hoA 31 ho, aI t keA 31 ke] rfl ?_
          refine V_iinc hc dX5_calls_80 3 rfl [(3, .int (iI (x3 + 1))), (4, .int (iI r_3)), (0, .ref hM), (2, .int (iI x2))] (by decide) rfl ?_
          refine V_goto (tgt := 38) hc dX5_calls_83 (by decide) ?_
          refine V_lv [2, 3, 0] [(0, .ref hM), (2, .int (iI x2)), (3, .int (iI (x3 + 1)))] rfl ?_
          exact hK_38 nvi_3 low_3 high_3 mos z_3 vi_3 sr_3 fr_3 to_3 (x3 + 1) hv
        · refine V_iload hc dX5_calls_68 0 rfl ?_
          refine V_goto (tgt := 77) hc dX5_calls_70 (by decide) ?_
          refine V_puti (C := RX5) (T := TX5) (N := 21) hc i_X5_calls_5 0 rfl rfl 20 (by decide) m_X5_calls_200 tyX5 tyX5_ok nmX5 rfl (by decide +kernel) (Nat.le_of_ble_eq_true rfl) dX5_calls_77 [oB hM 5 [.ref zA, .ref spA, .ref svA, .int (iI nsv), .ref soA, .ref ikA, .ref txA, .int (iI len), .int (iI thr), .int (iI nvi_3), .ref viA, .int (iI low_3), .int (iI high_3), .ref srA, .ref frA, .ref toA, .ref hoA, .ref keA, .int (iI nto), .int (iI spo), .int (iI r_3)], aI t zA 646 z_3, aI t spA 646 sp, aI t svA 3876 sv, aI t soA 1292 so, aZ t ikA 2 ik, aI t txA 60 tx, aI t viA 120 vi_3, aI t srA 120 sr_3, aI t frA 122 fr_3, aI t toA 122 to_3, aI t hoA 31 ho, aI t keA 31 ke] rfl ?_
          refine V_iinc hc dX5_calls_80 3 rfl [(3, .int (iI (x3 + 1))), (4, .int (iI r_3)), (0, .ref hM), (2, .int (iI x2))] (by decide) rfl ?_
          refine V_goto (tgt := 38) hc dX5_calls_83 (by decide) ?_
          refine V_lv [2, 3, 0] [(0, .ref hM), (2, .int (iI x2)), (3, .int (iI (x3 + 1)))] rfl ?_
          exact hK_38 nvi_3 low_3 high_3 r_3 z_3 vi_3 sr_3 fr_3 to_3 (x3 + 1) hv
  refine V_lv [0, 1] [(0, .ref hM), (1, .int (iI x1))] rfl ?_
  unfold wp_X5_calls at hv
  refine V_aload_n hc dX5_calls_0 0 rfl ?_
  refine V_get (C := RX5) (T := TX5) (N := 21) hc i_X5_calls_5 0 rfl rfl 0 (by decide) m_X5_calls_7 rfl dX5_calls_1 ?_
  refine V_iconst hc dX5_calls_4 ?_
  refine V_aload_n hc dX5_calls_5 0 rfl ?_
  refine V_get (C := RX5) (T := TX5) (N := 21) hc i_X5_calls_5 0 rfl rfl 1 (by decide) m_X5_calls_13 rfl dX5_calls_6 ?_
  refine V_iconst hc dX5_calls_9 ?_
  refine V_callSV (As := [.ref zA, .int (iI 0), .ref spA, .int (iI 0)]) hc (wc := [aI t zA 646 z, aI t spA 646 sp]) (wr := [oB hM 5 [.ref zA, .ref spA, .ref svA, .int (iI nsv), .ref soA, .ref ikA, .ref txA, .int (iI len), .int (iI thr), .int (iI nvi), .ref viA, .int (iI low), .int (iI high), .ref srA, .ref frA, .ref toA, .ref hoA, .ref keA, .int (iI nto), .int (iI spo), .int (iI mos)], aI t svA 3876 sv, aI t soA 1292 so, aZ t ikA 2 ik, aI t txA 60 tx, aI t viA 120 vi, aI t srA 120 sr, aI t frA 122 fr, aI t toA 122 to, aI t hoA 31 ho, aI t keA 31 ke]) (pmI [1, 2, 0, 3, 4, 5, 6, 7, 8, 9, 10, 11, 12] 13 rfl (by decide +kernel) rfl) (met_X5_copyState l D t zA spA 646 646 (by decide) (by decide) z sp 0 0 _ hv) rfl gX5_calls_X5_copyState rfl ⟨rfl, rfl⟩ ok_X5_copyState (by decide) (Nat.le_of_ble_eq_true rfl) dX5_calls_10 (by decide) (fun u9 hv => ?_)
  obtain ⟨sp_1, h9⟩ : ∃ z, z = u9 := ⟨_, rfl⟩
  subst h9
  try dsimp only at hv
  refine V_perm (ws1 := [oB hM 5 [.ref zA, .ref spA, .ref svA, .int (iI nsv), .ref soA, .ref ikA, .ref txA, .int (iI len), .int (iI thr), .int (iI nvi), .ref viA, .int (iI low), .int (iI high), .ref srA, .ref frA, .ref toA, .ref hoA, .ref keA, .int (iI nto), .int (iI spo), .int (iI mos)], aI t zA 646 z, aI t spA 646 sp_1, aI t svA 3876 sv, aI t soA 1292 so, aZ t ikA 2 ik, aI t txA 60 tx, aI t viA 120 vi, aI t srA 120 sr, aI t frA 122 fr, aI t toA 122 to, aI t hoA 31 ho, aI t keA 31 ke]) (pmI [2, 0, 1, 3, 4, 5, 6, 7, 8, 9, 10, 11, 12] 13 rfl (by decide +kernel) rfl) ?_
  refine V_aload_n hc dX5_calls_13 0 rfl ?_
  refine V_get (C := RX5) (T := TX5) (N := 21) hc i_X5_calls_5 0 rfl rfl 0 (by decide) m_X5_calls_7 rfl dX5_calls_14 ?_
  refine V_sipush hc dX5_calls_17 (by decide) ?_
  refine V_iload_n hc dX5_calls_20 1 rfl ?_
  refine V_iast hc 1 rfl (by decide) ⟨by decide, hv⟩ dX5_calls_21 [oB hM 5 [.ref zA, .ref spA, .ref svA, .int (iI nsv), .ref soA, .ref ikA, .ref txA, .int (iI len), .int (iI thr), .int (iI nvi), .ref viA, .int (iI low), .int (iI high), .ref srA, .ref frA, .ref toA, .ref hoA, .ref keA, .int (iI nto), .int (iI spo), .int (iI mos)], aI t zA 646 (uI z 638 x1), aI t spA 646 sp_1, aI t svA 3876 sv, aI t soA 1292 so, aZ t ikA 2 ik, aI t txA 60 tx, aI t viA 120 vi, aI t srA 120 sr, aI t frA 122 fr, aI t toA 122 to, aI t hoA 31 ho, aI t keA 31 ke] rfl (fun hv => ?_)
  refine V_aload_n hc dX5_calls_22 0 rfl ?_
  refine V_get (C := RX5) (T := TX5) (N := 21) hc i_X5_calls_5 0 rfl rfl 0 (by decide) m_X5_calls_7 rfl dX5_calls_23 ?_
  refine V_sipush hc dX5_calls_26 (by decide) ?_
  refine V_iald hc 1 rfl (by decide) ⟨by decide, hv⟩ dX5_calls_29 (fun hv => ?_)
  refine V_istore_n hc dX5_calls_30 [(2, .int (iI ((uI z 638 x1) 644))), (0, .ref hM), (1, .int (iI x1))] (by decide) rfl ?_
  refine V_iconst hc dX5_calls_31 ?_
  refine V_istore_n hc dX5_calls_32 [(3, .int (iI 0)), (2, .int (iI ((uI z 638 x1) 644))), (0, .ref hM), (1, .int (iI x1))] (by decide) rfl ?_
  refine V_aload_n hc dX5_calls_33 2 rfl ?_
  refine V_iconst hc dX5_calls_34 ?_
  refine V_puti (C := RX5) (T := TX5) (N := 21) hc i_X5_calls_5 0 rfl rfl 20 (by decide) m_X5_calls_200 tyX5 tyX5_ok nmX5 rfl (by decide +kernel) (Nat.le_of_ble_eq_true rfl) dX5_calls_35 [oB hM 5 [.ref zA, .ref spA, .ref svA, .int (iI nsv), .ref soA, .ref ikA, .ref txA, .int (iI len), .int (iI thr), .int (iI nvi), .ref viA, .int (iI low), .int (iI high), .ref srA, .ref frA, .ref toA, .ref hoA, .ref keA, .int (iI nto), .int (iI spo), .int (iI 0)], aI t zA 646 (uI z 638 x1), aI t spA 646 sp_1, aI t svA 3876 sv, aI t soA 1292 so, aZ t ikA 2 ik, aI t txA 60 tx, aI t viA 120 vi, aI t srA 120 sr, aI t frA 122 fr, aI t toA 122 to, aI t hoA 31 ho, aI t keA 31 ke] rfl ?_
  refine V_lv [2, 1, 0] [(0, .ref hM), (2, .int (iI ((uI z 638 x1) 644))), (3, .int (iI 0))] rfl ?_
  obtain ⟨n9, hv⟩ := hv
  exact L_38 sp_1 ((uI z 638 x1) 644) n9 nvi low high 0 (uI z 638 x1) vi sr fr to 0 hv
abbrev W1_X5_isSpeed (t : Nat → ClassId) (u : Unit) : va_W := []
abbrev po_X5_isSpeed (Q : Int → Prop) (r : Int) (u : Unit) : Prop := Q r
abbrev rm_X5_isSpeed : Room := { frames := 1, cells := 0, slots := 0, locals := 22 }
def wp_X5_isSpeed (x0 : Int) (Q : Int → Prop) : Prop := wp_X5_in x0 1 8 (fun r_1 => (r_1 = 0 ∨ r_1 = 1) ∧ Q r_1)
theorem ok_X5_isSpeed : yX5_isSpeed.cls ≠ "java/lang/invoke/MethodHandle" ∧ yX5_isSpeed.cls ≠ "java/lang/invoke/VarHandle" ∧ (parseMethodDescriptor yX5_isSpeed.desc).map (fun d => d.parameters.length) = some 1 := by decide +kernel
set_option maxHeartbeats 4000000 in
set_option maxRecDepth 100000 in
theorem met_X5_isSpeed (l : Launch) (D : va_G) (t : Nat → ClassId) (x0 : Int) (Q : Int → Prop) (hv : wp_X5_isSpeed x0 Q) : MI l D t yX5_isSpeed wsX5_isSpeed rm_X5_isSpeed [.int (iI x0)] [] (W1_X5_isSpeed t ) (po_X5_isSpeed Q) 0 0 := by
  refine M_ofz (cc := cX5_isSpeed) (nL := 1) (by decide) rfl (Nat.le_of_ble_eq_true rfl) ?_
  intro p e s m args below meth c A hc hr
  refine V_lv [0] [(0, .int (iI x0))] rfl ?_
  unfold wp_X5_isSpeed at hv
  refine V_iload_n hc dX5_isSpeed_0 0 rfl ?_
  refine V_iconst hc dX5_isSpeed_1 ?_
  refine V_bipush hc dX5_isSpeed_2 (by decide) ?_
  refine V_callSI (As := [.int (iI x0), .int (iI 1), .int (iI 8)]) hc (wc := []) (wr := []) (pmI [] 0 rfl (by decide +kernel) rfl) (met_X5_in l D t x0 1 8 _ hv) rfl gX5_isSpeed_X5_in rfl ⟨rfl, rfl⟩ ok_X5_in (by decide) (Nat.le_of_ble_eq_true rfl) dX5_isSpeed_4 (by decide) (fun r_1 _ hv => ?_)
  try dsimp only at hv
  refine V_perm (ws1 := []) (pmI [] 0 rfl (by decide +kernel) rfl) ?_
  exact V_zret hc hr () hv rfl dX5_isSpeed_7
abbrev W1_X5_untilExchange (t : Nat → ClassId) (hM : Nat) (zA : Nat) (spA : Nat) (svA : Nat) (soA : Nat) (ikA : Nat) (txA : Nat) (viA : Nat) (srA : Nat) (frA : Nat) (toA : Nat) (hoA : Nat) (keA : Nat) (nsv : Int) (len : Int) (nto : Int) (spo : Int) (sv : Nat → Int) (so : Nat → Int) (ik : Nat → Int) (tx : Nat → Int) (ho : Nat → Int) (ke : Nat → Int) (u : (Int) × (Int) × (Int) × (Int) × (Int) × (Nat → Int) × (Nat → Int) × (Nat → Int) × (Nat → Int) × (Nat → Int) × (Nat → Int)) : va_W := [oB hM 5 [.ref zA, .ref spA, .ref svA, .int (iI nsv), .ref soA, .ref ikA, .ref txA, .int (iI len), .int (iI u.1), .int (iI u.2.1), .ref viA, .int (iI u.2.2.1), .int (iI u.2.2.2.1), .ref srA, .ref frA, .ref toA, .ref hoA, .ref keA, .int (iI nto), .int (iI spo), .int (iI u.2.2.2.2.1)], aI t zA 646 u.2.2.2.2.2.1, aI t spA 646 u.2.2.2.2.2.2.1, aI t svA 3876 sv, aI t soA 1292 so, aZ t ikA 2 ik, aI t txA 60 tx, aI t viA 120 u.2.2.2.2.2.2.2.1, aI t srA 120 u.2.2.2.2.2.2.2.2.1, aI t frA 122 u.2.2.2.2.2.2.2.2.2.1, aI t toA 122 u.2.2.2.2.2.2.2.2.2.2, aI t hoA 31 ho, aI t keA 31 ke]
abbrev po_X5_untilExchange (Q : Int → (Int) → (Int) → (Int) → (Int) → (Int) → (Nat → Int) → (Nat → Int) → (Nat → Int) → (Nat → Int) → (Nat → Int) → (Nat → Int) → Prop) (r : Int) (u : (Int) × (Int) × (Int) × (Int) × (Int) × (Nat → Int) × (Nat → Int) × (Nat → Int) × (Nat → Int) × (Nat → Int) × (Nat → Int)) : Prop := Q r u.1 u.2.1 u.2.2.1 u.2.2.2.1 u.2.2.2.2.1 u.2.2.2.2.2.1 u.2.2.2.2.2.2.1 u.2.2.2.2.2.2.2.1 u.2.2.2.2.2.2.2.2.1 u.2.2.2.2.2.2.2.2.2.1 u.2.2.2.2.2.2.2.2.2.2
abbrev rm_X5_untilExchange : Room := { frames := 6, cells := 0, slots := 0, locals := 141 }
def wp_X5_untilExchange_13 (thr : Int) (nvi : Int) (low : Int) (high : Int) (mos : Int) (z : Nat → Int) (sp : Nat → Int) (vi : Nat → Int) (sr : Nat → Int) (fr : Nat → Int) (to : Nat → Int) (x1 : Int) (s0 : Int) (Q : Int → (Int) → (Int) → (Int) → (Int) → (Int) → (Nat → Int) → (Nat → Int) → (Nat → Int) → (Nat → Int) → (Nat → Int) → (Nat → Int) → Prop) : Prop := wp_X5_refused thr s0 (fun r_2 thr_2 => inR r_2 ∧ (r_2 = 0 → inR (z 482) ∧ (z 482 ≠ 1 → Q (-1) thr_2 nvi low high mos z sp vi sr fr to) ∧ (¬ (z 482 ≠ 1) → wp_X5_calls nvi low high mos z sp vi sr fr to x1 (fun r_3 nvi_3 low_3 high_3 mos_3 z_3 sp_3 vi_3 sr_3 fr_3 to_3 => Q r_3 thr_2 nvi_3 low_3 high_3 mos_3 z_3 sp_3 vi_3 sr_3 fr_3 to_3))) ∧ (¬ (r_2 = 0) → Q 0 thr_2 nvi low high mos z sp vi sr fr to))
def wp_X5_untilExchange (thr : Int) (nvi : Int) (low : Int) (high : Int) (mos : Int) (z : Nat → Int) (sp : Nat → Int) (vi : Nat → Int) (sr : Nat → Int) (fr : Nat → Int) (to : Nat → Int) (x1 : Int) (Q : Int → (Int) → (Int) → (Int) → (Int) → (Int) → (Nat → Int) → (Nat → Int) → (Nat → Int) → (Nat → Int) → (Nat → Int) → (Nat → Int) → Prop) : Prop := wp_X5_isSpeed x1 (fun r_1 => inR r_1 ∧ (r_1 = 0 → wp_X5_untilExchange_13 thr nvi low high mos z sp vi sr fr to x1 1 Q) ∧ (¬ (r_1 = 0) → wp_X5_untilExchange_13 thr nvi low high mos z sp vi sr fr to x1 0 Q))
theorem m_X5_untilExchange_7 : Cond.fieldLink RX5 7 "BackgroundRebuildModel" "z" "[I" ∈ wsX5_untilExchange := by decide +kernel
theorem i_X5_untilExchange_5 : ∀ w ∈ u_ws RX5 TX5 21, w ∈ wsX5_untilExchange := by decide +kernel
theorem ok_X5_untilExchange : yX5_untilExchange.cls = RX5 ∧ yX5_untilExchange.cls ≠ "java/lang/invoke/MethodHandle" ∧ yX5_untilExchange.cls ≠ "java/lang/invoke/VarHandle" ∧ (parseMethodDescriptor yX5_untilExchange.desc).map (fun d => d.parameters.length) = some 1 := by decide +kernel
set_option maxHeartbeats 4000000 in
set_option maxRecDepth 100000 in
theorem met_X5_untilExchange (l : Launch) (D : va_G) (t : Nat → ClassId) (hM : Nat) (zA : Nat) (spA : Nat) (svA : Nat) (soA : Nat) (ikA : Nat) (txA : Nat) (viA : Nat) (srA : Nat) (frA : Nat) (toA : Nat) (hoA : Nat) (keA : Nat) (nsv : Int) (len : Int) (thr : Int) (nvi : Int) (low : Int) (high : Int) (nto : Int) (spo : Int) (mos : Int) (z : Nat → Int) (sp : Nat → Int) (sv : Nat → Int) (so : Nat → Int) (ik : Nat → Int) (tx : Nat → Int) (vi : Nat → Int) (sr : Nat → Int) (fr : Nat → Int) (to : Nat → Int) (ho : Nat → Int) (ke : Nat → Int) (x1 : Int) (Q : Int → (Int) → (Int) → (Int) → (Int) → (Int) → (Nat → Int) → (Nat → Int) → (Nat → Int) → (Nat → Int) → (Nat → Int) → (Nat → Int) → Prop) (hv : wp_X5_untilExchange thr nvi low high mos z sp vi sr fr to x1 Q) : MI l D t yX5_untilExchange wsX5_untilExchange rm_X5_untilExchange [.ref hM, .int (iI x1)] [oB hM 5 [.ref zA, .ref spA, .ref svA, .int (iI nsv), .ref soA, .ref ikA, .ref txA, .int (iI len), .int (iI thr), .int (iI nvi), .ref viA, .int (iI low), .int (iI high), .ref srA, .ref frA, .ref toA, .ref hoA, .ref keA, .int (iI nto), .int (iI spo), .int (iI mos)], aI t zA 646 z, aI t spA 646 sp, aI t svA 3876 sv, aI t soA 1292 so, aZ t ikA 2 ik, aI t txA 60 tx, aI t viA 120 vi, aI t srA 120 sr, aI t frA 122 fr, aI t toA 122 to, aI t hoA 31 ho, aI t keA 31 ke] (W1_X5_untilExchange t hM zA spA svA soA ikA txA viA srA frA toA hoA keA nsv len nto spo sv so ik tx ho ke) (po_X5_untilExchange Q) 0 0 := by
  refine M_ofi (cc := cX5_untilExchange) (nL := 2) (by decide) rfl (Nat.le_of_ble_eq_true rfl) ?_
  intro p e s m args below meth c A hc hr
  have C_13 : ∀ (thr : Int) (nvi : Int) (low : Int) (high : Int) (mos : Int) (z : Nat → Int) (sp : Nat → Int) (vi : Nat → Int) (sr : Nat → Int) (fr : Nat → Int) (to : Nat → Int) (x1 : Int) (s0 : Int), wp_X5_untilExchange_13 thr nvi low high mos z sp vi sr fr to x1 s0 Q → V p l e rm_X5_untilExchange s m args below meth c D A 2 0 0 (MQ below (QI D A (W1_X5_untilExchange t hM zA spA svA soA ikA txA viA srA frA toA hoA keA nsv len nto spo sv so ik tx ho ke) (po_X5_untilExchange Q)) args s 0 0 A) 13 [(0, .ref hM), (1, .int (iI x1))] [.int (iI s0), .ref hM] [oB hM 5 [.ref zA, .ref spA, .ref svA, .int (iI nsv), .ref soA, .ref ikA, .ref txA, .int (iI len), .int (iI thr), .int (iI nvi), .ref viA, .int (iI low), .int (iI high), .ref srA, .ref frA, .ref toA, .ref hoA, .ref keA, .int (iI nto), .int (iI spo), .int (iI mos)], aI t zA 646 z, aI t spA 646 sp, aI t svA 3876 sv, aI t soA 1292 so, aZ t ikA 2 ik, aI t txA 60 tx, aI t viA 120 vi, aI t srA 120 sr, aI t frA 122 fr, aI t toA 122 to, aI t hoA 31 ho, aI t keA 31 ke] := by
    intro thr nvi low high mos z sp vi sr fr to x1 s0 hv
    unfold wp_X5_untilExchange_13 at hv
    refine V_callVI (As := [.int (iI s0)]) hc (wc := [oB hM 5 [.ref zA, .ref spA, .ref svA, .int (iI nsv), .ref soA, .ref ikA, .ref txA, .int (iI len), .int (iI thr), .int (iI nvi), .ref viA, .int (iI low), .int (iI high), .ref srA, .ref frA, .ref toA, .ref hoA, .ref keA, .int (iI nto), .int (iI spo), .int (iI mos)], aI t zA 646 z, aI t spA 646 sp, aI t svA 3876 sv, aI t soA 1292 so, aZ t ikA 2 ik, aI t txA 60 tx, aI t viA 120 vi, aI t srA 120 sr, aI t frA 122 fr, aI t toA 122 to, aI t hoA 31 ho, aI t keA 31 ke]) (wr := []) (pmI [0, 1, 2, 3, 4, 5, 6, 7, 8, 9, 10, 11, 12] 13 rfl (by decide +kernel) rfl) rfl rfl (met_X5_refused l D t hM zA spA svA soA ikA txA viA srA frA toA hoA keA nsv len thr nvi low high nto spo mos z sp sv so ik tx vi sr fr to ho ke s0 _ hv) rfl gX5_untilExchange_X5_refused rfl ⟨rfl, rfl⟩ ok_X5_refused (by decide) (Nat.le_of_ble_eq_true rfl) dX5_untilExchange_13 (by decide) (fun r_2 u9 hv => ?_)
    obtain ⟨thr_2, h9⟩ : ∃ z, z = u9 := ⟨_, rfl⟩
    subst h9
    try dsimp only at hv
    refine V_perm (ws1 := [oB hM 5 [.ref zA, .ref spA, .ref svA, .int (iI nsv), .ref soA, .ref ikA, .ref txA, .int (iI len), .int (iI thr_2), .int (iI nvi), .ref viA, .int (iI low), .int (iI high), .ref srA, .ref frA, .ref toA, .ref hoA, .ref keA, .int (iI nto), .int (iI spo), .int (iI mos)], aI t zA 646 z, aI t spA 646 sp, aI t svA 3876 sv, aI t soA 1292 so, aZ t ikA 2 ik, aI t txA 60 tx, aI t viA 120 vi, aI t srA 120 sr, aI t frA 122 fr, aI t toA 122 to, aI t hoA 31 ho, aI t keA 31 ke]) (pmI [0, 1, 2, 3, 4, 5, 6, 7, 8, 9, 10, 11, 12] 13 rfl (by decide +kernel) rfl) ?_
    refine V_if_eq (tgt := 21) hc dX5_untilExchange_16 (by decide) hv (fun hv => ?_) (fun hv => ?_)
    · refine V_aload_n hc dX5_untilExchange_21 0 rfl ?_
      refine V_get (C := RX5) (T := TX5) (N := 21) hc i_X5_untilExchange_5 0 rfl rfl 0 (by decide) m_X5_untilExchange_7 rfl dX5_untilExchange_22 ?_
      refine V_sipush hc dX5_untilExchange_25 (by decide) ?_
      refine V_iald hc 1 rfl (by decide) ⟨by decide, hv⟩ dX5_untilExchange_28 (fun hv => ?_)
      refine V_iconst hc dX5_untilExchange_29 ?_
      refine V_icmp_ne (tgt := 41) hc dX5_untilExchange_30 (by decide) ⟨hv.1, by decide, hv.2⟩ (fun hv => ?_) (fun hv => ?_)
      · refine V_iconst hc dX5_untilExchange_41 ?_
        exact V_iret hc hr (thr_2, nvi, low, high, mos, z, sp, vi, sr, fr, to) hv rfl dX5_untilExchange_42
      · refine V_aload_n hc dX5_untilExchange_33 0 rfl ?_
        refine V_iload_n hc dX5_untilExchange_34 1 rfl ?_
        refine V_callVI (As := [.int (iI x1)]) hc (wc := [oB hM 5 [.ref zA, .ref spA, .ref svA, .int (iI nsv), .ref soA, .ref ikA, .ref txA, .int (iI len), .int (iI thr_2), .int (iI nvi), .ref viA, .int (iI low), .int (iI high), .ref srA, .ref frA, .ref toA, .ref hoA, .ref keA, .int (iI nto), .int (iI spo), .int (iI mos)], aI t zA 646 z, aI t spA 646 sp, aI t svA 3876 sv, aI t soA 1292 so, aZ t ikA 2 ik, aI t txA 60 tx, aI t viA 120 vi, aI t srA 120 sr, aI t frA 122 fr, aI t toA 122 to, aI t hoA 31 ho, aI t keA 31 ke]) (wr := []) (pmI [0, 1, 2, 3, 4, 5, 6, 7, 8, 9, 10, 11, 12] 13 rfl (by decide +kernel) rfl) rfl rfl (met_X5_calls l D t hM zA spA svA soA ikA txA viA srA frA toA hoA keA nsv len thr_2 nvi low high nto spo mos z sp sv so ik tx vi sr fr to ho ke x1 _ hv) rfl gX5_untilExchange_X5_calls rfl ⟨rfl, rfl⟩ ok_X5_calls (by decide) (Nat.le_of_ble_eq_true rfl) dX5_untilExchange_35 (by decide) (fun r_3 u9 hv => ?_)
        obtain ⟨nvi_3, low_3, high_3, mos_3, z_3, sp_3, vi_3, sr_3, fr_3, to_3⟩ := u9
        try dsimp only at hv
        refine V_perm (ws1 := [oB hM 5 [.ref zA, .ref spA, .ref svA, .int (iI nsv), .ref soA, .ref ikA, .ref txA, .int (iI len), .int (iI thr_2), .int (iI nvi_3), .ref viA, .int (iI low_3), .int (iI high_3), .ref srA, .ref frA, .ref toA, .ref hoA, .ref keA, .int (iI nto), .int (iI spo), .int (iI mos_3)], aI t zA 646 z_3, aI t spA 646 sp_3, aI t svA 3876 sv, aI t soA 1292 so, aZ t ikA 2 ik, aI t txA 60 tx, aI t viA 120 vi_3, aI t srA 120 sr_3, aI t frA 122 fr_3, aI t toA 122 to_3, aI t hoA 31 ho, aI t keA 31 ke]) (pmI [0, 1, 2, 3, 4, 5, 6, 7, 8, 9, 10, 11, 12] 13 rfl (by decide +kernel) rfl) ?_
        refine V_goto (tgt := 42) hc dX5_untilExchange_38 (by decide) ?_
        exact V_iret hc hr (thr_2, nvi_3, low_3, high_3, mos_3, z_3, sp_3, vi_3, sr_3, fr_3, to_3) hv rfl dX5_untilExchange_42
    · refine V_iconst hc dX5_untilExchange_19 ?_
      exact V_iret hc hr (thr_2, nvi, low, high, mos, z, sp, vi, sr, fr, to) hv rfl dX5_untilExchange_20
  refine V_lv [0, 1] [(0, .ref hM), (1, .int (iI x1))] rfl ?_
  unfold wp_X5_untilExchange at hv
  refine V_aload_n hc dX5_untilExchange_0 0 rfl ?_
  refine V_iload_n hc dX5_untilExchange_1 1 rfl ?_
  refine V_callSI (As := [.int (iI x1)]) hc (wc := []) (wr := [oB hM 5 [.ref zA, .ref spA, .ref svA, .int (iI nsv), .ref soA, .ref ikA, .ref txA, .int (iI len), .int (iI thr), .int (iI nvi), .ref viA, .int (iI low), .int (iI high), .ref srA, .ref frA, .ref toA, .ref hoA, .ref keA, .int (iI nto), .int (iI spo), .int (iI mos)], aI t zA 646 z, aI t spA 646 sp, aI t svA 3876 sv, aI t soA 1292 so, aZ t ikA 2 ik, aI t txA 60 tx, aI t viA 120 vi, aI t srA 120 sr, aI t frA 122 fr, aI t toA 122 to, aI t hoA 31 ho, aI t keA 31 ke]) (pmI [0, 1, 2, 3, 4, 5, 6, 7, 8, 9, 10, 11, 12] 13 rfl (by decide +kernel) rfl) (met_X5_isSpeed l D t x1 _ hv) rfl gX5_untilExchange_X5_isSpeed rfl ⟨rfl, rfl⟩ ok_X5_isSpeed (by decide) (Nat.le_of_ble_eq_true rfl) dX5_untilExchange_2 (by decide) (fun r_1 _ hv => ?_)
  try dsimp only at hv
  refine V_perm (ws1 := [oB hM 5 [.ref zA, .ref spA, .ref svA, .int (iI nsv), .ref soA, .ref ikA, .ref txA, .int (iI len), .int (iI thr), .int (iI nvi), .ref viA, .int (iI low), .int (iI high), .ref srA, .ref frA, .ref toA, .ref hoA, .ref keA, .int (iI nto), .int (iI spo), .int (iI mos)], aI t zA 646 z, aI t spA 646 sp, aI t svA 3876 sv, aI t soA 1292 so, aZ t ikA 2 ik, aI t txA 60 tx, aI t viA 120 vi, aI t srA 120 sr, aI t frA 122 fr, aI t toA 122 to, aI t hoA 31 ho, aI t keA 31 ke]) (pmI [0, 1, 2, 3, 4, 5, 6, 7, 8, 9, 10, 11, 12] 13 rfl (by decide +kernel) rfl) ?_
  refine V_if_eq (tgt := 12) hc dX5_untilExchange_5 (by decide) hv (fun hv => ?_) (fun hv => ?_)
  · refine V_iconst hc dX5_untilExchange_12 ?_
    exact C_13 thr nvi low high mos z sp vi sr fr to x1 1 hv
  · refine V_iconst hc dX5_untilExchange_8 ?_
    refine V_goto (tgt := 13) hc dX5_untilExchange_9 (by decide) ?_
    exact C_13 thr nvi low high mos z sp vi sr fr to x1 0 hv
abbrev W1_X5_longest (t : Nat → ClassId) (hM : Nat) (zA : Nat) (spA : Nat) (svA : Nat) (soA : Nat) (ikA : Nat) (txA : Nat) (viA : Nat) (srA : Nat) (frA : Nat) (toA : Nat) (hoA : Nat) (keA : Nat) (nsv : Int) (len : Int) (nto : Int) (spo : Int) (sv : Nat → Int) (so : Nat → Int) (ik : Nat → Int) (tx : Nat → Int) (ho : Nat → Int) (ke : Nat → Int) (u : (Int) × (Int) × (Int) × (Int) × (Int) × (Nat → Int) × (Nat → Int) × (Nat → Int) × (Nat → Int) × (Nat → Int) × (Nat → Int)) : va_W := [oB hM 5 [.ref zA, .ref spA, .ref svA, .int (iI nsv), .ref soA, .ref ikA, .ref txA, .int (iI len), .int (iI u.1), .int (iI u.2.1), .ref viA, .int (iI u.2.2.1), .int (iI u.2.2.2.1), .ref srA, .ref frA, .ref toA, .ref hoA, .ref keA, .int (iI nto), .int (iI spo), .int (iI u.2.2.2.2.1)], aI t zA 646 u.2.2.2.2.2.1, aI t spA 646 u.2.2.2.2.2.2.1, aI t svA 3876 sv, aI t soA 1292 so, aZ t ikA 2 ik, aI t txA 60 tx, aI t viA 120 u.2.2.2.2.2.2.2.1, aI t srA 120 u.2.2.2.2.2.2.2.2.1, aI t frA 122 u.2.2.2.2.2.2.2.2.2.1, aI t toA 122 u.2.2.2.2.2.2.2.2.2.2, aI t hoA 31 ho, aI t keA 31 ke]
abbrev po_X5_longest (Q : Int → (Int) → (Int) → (Int) → (Int) → (Int) → (Nat → Int) → (Nat → Int) → (Nat → Int) → (Nat → Int) → (Nat → Int) → (Nat → Int) → Prop) (r : Int) (u : (Int) × (Int) × (Int) × (Int) × (Int) × (Nat → Int) × (Nat → Int) × (Nat → Int) × (Nat → Int) × (Nat → Int) × (Nat → Int)) : Prop := Q r u.1 u.2.1 u.2.2.1 u.2.2.2.1 u.2.2.2.2.1 u.2.2.2.2.2.1 u.2.2.2.2.2.2.1 u.2.2.2.2.2.2.2.1 u.2.2.2.2.2.2.2.2.1 u.2.2.2.2.2.2.2.2.2.1 u.2.2.2.2.2.2.2.2.2.2
abbrev rm_X5_longest : Room := { frames := 6, cells := 0, slots := 0, locals := 141 }
def wp_X5_longest_13 (thr : Int) (nvi : Int) (low : Int) (high : Int) (mos : Int) (z : Nat → Int) (sp : Nat → Int) (vi : Nat → Int) (sr : Nat → Int) (fr : Nat → Int) (to : Nat → Int) (x1 : Int) (s0 : Int) (Q : Int → (Int) → (Int) → (Int) → (Int) → (Int) → (Nat → Int) → (Nat → Int) → (Nat → Int) → (Nat → Int) → (Nat → Int) → (Nat → Int) → Prop) : Prop := wp_X5_refused thr s0 (fun r_2 thr_2 => inR r_2 ∧ (r_2 = 0 → inR (z 482) ∧ (z 482 ≠ 1 → Q (-1) thr_2 nvi low high mos z sp vi sr fr to) ∧ (¬ (z 482 ≠ 1) → wp_X5_calls nvi low high mos z sp vi sr fr to x1 (fun r_3 nvi_3 low_3 high_3 mos_3 z_3 sp_3 vi_3 sr_3 fr_3 to_3 => inR r_3 ∧ (r_3 ≤ 0 → Q (-1) thr_2 nvi_3 low_3 high_3 mos_3 z_3 sp_3 vi_3 sr_3 fr_3 to_3) ∧ (¬ (r_3 ≤ 0) → Q mos_3 thr_2 nvi_3 low_3 high_3 mos_3 z_3 sp_3 vi_3 sr_3 fr_3 to_3)))) ∧ (¬ (r_2 = 0) → Q 0 thr_2 nvi low high mos z sp vi sr fr to))
def wp_X5_longest (thr : Int) (nvi : Int) (low : Int) (high : Int) (mos : Int) (z : Nat → Int) (sp : Nat → Int) (vi : Nat → Int) (sr : Nat → Int) (fr : Nat → Int) (to : Nat → Int) (x1 : Int) (Q : Int → (Int) → (Int) → (Int) → (Int) → (Int) → (Nat → Int) → (Nat → Int) → (Nat → Int) → (Nat → Int) → (Nat → Int) → (Nat → Int) → Prop) : Prop := wp_X5_isSpeed x1 (fun r_1 => inR r_1 ∧ (r_1 = 0 → wp_X5_longest_13 thr nvi low high mos z sp vi sr fr to x1 1 Q) ∧ (¬ (r_1 = 0) → wp_X5_longest_13 thr nvi low high mos z sp vi sr fr to x1 0 Q))
theorem m_X5_longest_7 : Cond.fieldLink RX5 7 "BackgroundRebuildModel" "z" "[I" ∈ wsX5_longest := by decide +kernel
theorem m_X5_longest_200 : Cond.fieldLink RX5 200 "BackgroundRebuildModel" "mostWork" "I" ∈ wsX5_longest := by decide +kernel
theorem i_X5_longest_5 : ∀ w ∈ u_ws RX5 TX5 21, w ∈ wsX5_longest := by decide +kernel
theorem ok_X5_longest : yX5_longest.cls = RX5 ∧ yX5_longest.cls ≠ "java/lang/invoke/MethodHandle" ∧ yX5_longest.cls ≠ "java/lang/invoke/VarHandle" ∧ (parseMethodDescriptor yX5_longest.desc).map (fun d => d.parameters.length) = some 1 := by decide +kernel
set_option maxHeartbeats 4000000 in
set_option maxRecDepth 100000 in
theorem met_X5_longest (l : Launch) (D : va_G) (t : Nat → ClassId) (hM : Nat) (zA : Nat) (spA : Nat) (svA : Nat) (soA : Nat) (ikA : Nat) (txA : Nat) (viA : Nat) (srA : Nat) (frA : Nat) (toA : Nat) (hoA : Nat) (keA : Nat) (nsv : Int) (len : Int) (thr : Int) (nvi : Int) (low : Int) (high : Int) (nto : Int) (spo : Int) (mos : Int) (z : Nat → Int) (sp : Nat → Int) (sv : Nat → Int) (so : Nat → Int) (ik : Nat → Int) (tx : Nat → Int) (vi : Nat → Int) (sr : Nat → Int) (fr : Nat → Int) (to : Nat → Int) (ho : Nat → Int) (ke : Nat → Int) (x1 : Int) (Q : Int → (Int) → (Int) → (Int) → (Int) → (Int) → (Nat → Int) → (Nat → Int) → (Nat → Int) → (Nat → Int) → (Nat → Int) → (Nat → Int) → Prop) (hv : wp_X5_longest thr nvi low high mos z sp vi sr fr to x1 Q) : MI l D t yX5_longest wsX5_longest rm_X5_longest [.ref hM, .int (iI x1)] [oB hM 5 [.ref zA, .ref spA, .ref svA, .int (iI nsv), .ref soA, .ref ikA, .ref txA, .int (iI len), .int (iI thr), .int (iI nvi), .ref viA, .int (iI low), .int (iI high), .ref srA, .ref frA, .ref toA, .ref hoA, .ref keA, .int (iI nto), .int (iI spo), .int (iI mos)], aI t zA 646 z, aI t spA 646 sp, aI t svA 3876 sv, aI t soA 1292 so, aZ t ikA 2 ik, aI t txA 60 tx, aI t viA 120 vi, aI t srA 120 sr, aI t frA 122 fr, aI t toA 122 to, aI t hoA 31 ho, aI t keA 31 ke] (W1_X5_longest t hM zA spA svA soA ikA txA viA srA frA toA hoA keA nsv len nto spo sv so ik tx ho ke) (po_X5_longest Q) 0 0 := by
  refine M_ofi (cc := cX5_longest) (nL := 2) (by decide) rfl (Nat.le_of_ble_eq_true rfl) ?_
  intro p e s m args below meth c A hc hr
  have C_13 : ∀ (thr : Int) (nvi : Int) (low : Int) (high : Int) (mos : Int) (z : Nat → Int) (sp : Nat → Int) (vi : Nat → Int) (sr : Nat → Int) (fr : Nat → Int) (to : Nat → Int) (x1 : Int) (s0 : Int), wp_X5_longest_13 thr nvi low high mos z sp vi sr fr to x1 s0 Q → V p l e rm_X5_longest s m args below meth c D A 2 0 0 (MQ below (QI D A (W1_X5_longest t hM zA spA svA soA ikA txA viA srA frA toA hoA keA nsv len nto spo sv so ik tx ho ke) (po_X5_longest Q)) args s 0 0 A) 13 [(0, .ref hM), (1, .int (iI x1))] [.int (iI s0), .ref hM] [oB hM 5 [.ref zA, .ref spA, .ref svA, .int (iI nsv), .ref soA, .ref ikA, .ref txA, .int (iI len), .int (iI thr), .int (iI nvi), .ref viA, .int (iI low), .int (iI high), .ref srA, .ref frA, .ref toA, .ref hoA, .ref keA, .int (iI nto), .int (iI spo), .int (iI mos)], aI t zA 646 z, aI t spA 646 sp, aI t svA 3876 sv, aI t soA 1292 so, aZ t ikA 2 ik, aI t txA 60 tx, aI t viA 120 vi, aI t srA 120 sr, aI t frA 122 fr, aI t toA 122 to, aI t hoA 31 ho, aI t keA 31 ke] := by
    intro thr nvi low high mos z sp vi sr fr to x1 s0 hv
    unfold wp_X5_longest_13 at hv
    refine V_callVI (As := [.int (iI s0)]) hc (wc := [oB hM 5 [.ref zA, .ref spA, .ref svA, .int (iI nsv), .ref soA, .ref ikA, .ref txA, .int (iI len), .int (iI thr), .int (iI nvi), .ref viA, .int (iI low), .int (iI high), .ref srA, .ref frA, .ref toA, .ref hoA, .ref keA, .int (iI nto), .int (iI spo), .int (iI mos)], aI t zA 646 z, aI t spA 646 sp, aI t svA 3876 sv, aI t soA 1292 so, aZ t ikA 2 ik, aI t txA 60 tx, aI t viA 120 vi, aI t srA 120 sr, aI t frA 122 fr, aI t toA 122 to, aI t hoA 31 ho, aI t keA 31 ke]) (wr := []) (pmI [0, 1, 2, 3, 4, 5, 6, 7, 8, 9, 10, 11, 12] 13 rfl (by decide +kernel) rfl) rfl rfl (met_X5_refused l D t hM zA spA svA soA ikA txA viA srA frA toA hoA keA nsv len thr nvi low high nto spo mos z sp sv so ik tx vi sr fr to ho ke s0 _ hv) rfl gX5_longest_X5_refused rfl ⟨rfl, rfl⟩ ok_X5_refused (by decide) (Nat.le_of_ble_eq_true rfl) dX5_longest_13 (by decide) (fun r_2 u9 hv => ?_)
    obtain ⟨thr_2, h9⟩ : ∃ z, z = u9 := ⟨_, rfl⟩
    subst h9
    try dsimp only at hv
    refine V_perm (ws1 := [oB hM 5 [.ref zA, .ref spA, .ref svA, .int (iI nsv), .ref soA, .ref ikA, .ref txA, .int (iI len), .int (iI thr_2), .int (iI nvi), .ref viA, .int (iI low), .int (iI high), .ref srA, .ref frA, .ref toA, .ref hoA, .ref keA, .int (iI nto), .int (iI spo), .int (iI mos)], aI t zA 646 z, aI t spA 646 sp, aI t svA 3876 sv, aI t soA 1292 so, aZ t ikA 2 ik, aI t txA 60 tx, aI t viA 120 vi, aI t srA 120 sr, aI t frA 122 fr, aI t toA 122 to, aI t hoA 31 ho, aI t keA 31 ke]) (pmI [0, 1, 2, 3, 4, 5, 6, 7, 8, 9, 10, 11, 12] 13 rfl (by decide +kernel) rfl) ?_
    refine V_if_eq (tgt := 21) hc dX5_longest_16 (by decide) hv (fun hv => ?_) (fun hv => ?_)
    · refine V_aload_n hc dX5_longest_21 0 rfl ?_
      refine V_get (C := RX5) (T := TX5) (N := 21) hc i_X5_longest_5 0 rfl rfl 0 (by decide) m_X5_longest_7 rfl dX5_longest_22 ?_
      refine V_sipush hc dX5_longest_25 (by decide) ?_
      refine V_iald hc 1 rfl (by decide) ⟨by decide, hv⟩ dX5_longest_28 (fun hv => ?_)
      refine V_iconst hc dX5_longest_29 ?_
      refine V_icmp_ne (tgt := 48) hc dX5_longest_30 (by decide) ⟨hv.1, by decide, hv.2⟩ (fun hv => ?_) (fun hv => ?_)
      · refine V_iconst hc dX5_longest_48 ?_
        exact V_iret hc hr (thr_2, nvi, low, high, mos, z, sp, vi, sr, fr, to) hv rfl dX5_longest_49
      · refine V_aload_n hc dX5_longest_33 0 rfl ?_
        refine V_iload_n hc dX5_longest_34 1 rfl ?_
        refine V_callVI (As := [.int (iI x1)]) hc (wc := [oB hM 5 [.ref zA, .ref spA, .ref svA, .int (iI nsv), .ref soA, .ref ikA, .ref txA, .int (iI len), .int (iI thr_2), .int (iI nvi), .ref viA, .int (iI low), .int (iI high), .ref srA, .ref frA, .ref toA, .ref hoA, .ref keA, .int (iI nto), .int (iI spo), .int (iI mos)], aI t zA 646 z, aI t spA 646 sp, aI t svA 3876 sv, aI t soA 1292 so, aZ t ikA 2 ik, aI t txA 60 tx, aI t viA 120 vi, aI t srA 120 sr, aI t frA 122 fr, aI t toA 122 to, aI t hoA 31 ho, aI t keA 31 ke]) (wr := []) (pmI [0, 1, 2, 3, 4, 5, 6, 7, 8, 9, 10, 11, 12] 13 rfl (by decide +kernel) rfl) rfl rfl (met_X5_calls l D t hM zA spA svA soA ikA txA viA srA frA toA hoA keA nsv len thr_2 nvi low high nto spo mos z sp sv so ik tx vi sr fr to ho ke x1 _ hv) rfl gX5_longest_X5_calls rfl ⟨rfl, rfl⟩ ok_X5_calls (by decide) (Nat.le_of_ble_eq_true rfl) dX5_longest_35 (by decide) (fun r_3 u9 hv => ?_)
        obtain ⟨nvi_3, low_3, high_3, mos_3, z_3, sp_3, vi_3, sr_3, fr_3, to_3⟩ := u9
        try dsimp only at hv
        refine V_perm (ws1 := [oB hM 5 [.ref zA, .ref spA, .ref svA, .int (iI nsv), .ref soA, .ref ikA, .ref txA, .int (iI len), .int (iI thr_2), .int (iI nvi_3), .ref viA, .int (iI low_3), .int (iI high_3), .ref srA, .ref frA, .ref toA, .ref hoA, .ref keA, .int (iI nto), .int (iI spo), .int (iI mos_3)], aI t zA 646 z_3, aI t spA 646 sp_3, aI t svA 3876 sv, aI t soA 1292 so, aZ t ikA 2 ik, aI t txA 60 tx, aI t viA 120 vi_3, aI t srA 120 sr_3, aI t frA 122 fr_3, aI t toA 122 to_3, aI t hoA 31 ho, aI t keA 31 ke]) (pmI [0, 1, 2, 3, 4, 5, 6, 7, 8, 9, 10, 11, 12] 13 rfl (by decide +kernel) rfl) ?_
        refine V_if_le (tgt := 48) hc dX5_longest_38 (by decide) hv (fun hv => ?_) (fun hv => ?_)
        · refine V_iconst hc dX5_longest_48 ?_
          exact V_iret hc hr (thr_2, nvi_3, low_3, high_3, mos_3, z_3, sp_3, vi_3, sr_3, fr_3, to_3) hv rfl dX5_longest_49
        · refine V_aload_n hc dX5_longest_41 0 rfl ?_
          refine V_get (C := RX5) (T := TX5) (N := 21) hc i_X5_longest_5 0 rfl rfl 20 (by decide) m_X5_longest_200 rfl dX5_longest_42 ?_
          refine V_goto (tgt := 49) hc dX5_longest_45 (by decide) ?_
          exact V_iret hc hr (thr_2, nvi_3, low_3, high_3, mos_3, z_3, sp_3, vi_3, sr_3, fr_3, to_3) hv rfl dX5_longest_49
    · refine V_iconst hc dX5_longest_19 ?_
      exact V_iret hc hr (thr_2, nvi, low, high, mos, z, sp, vi, sr, fr, to) hv rfl dX5_longest_20
  refine V_lv [0, 1] [(0, .ref hM), (1, .int (iI x1))] rfl ?_
  unfold wp_X5_longest at hv
  refine V_aload_n hc dX5_longest_0 0 rfl ?_
  refine V_iload_n hc dX5_longest_1 1 rfl ?_
  refine V_callSI (As := [.int (iI x1)]) hc (wc := []) (wr := [oB hM 5 [.ref zA, .ref spA, .ref svA, .int (iI nsv), .ref soA, .ref ikA, .ref txA, .int (iI len), .int (iI thr), .int (iI nvi), .ref viA, .int (iI low), .int (iI high), .ref srA, .ref frA, .ref toA, .ref hoA, .ref keA, .int (iI nto), .int (iI spo), .int (iI mos)], aI t zA 646 z, aI t spA 646 sp, aI t svA 3876 sv, aI t soA 1292 so, aZ t ikA 2 ik, aI t txA 60 tx, aI t viA 120 vi, aI t srA 120 sr, aI t frA 122 fr, aI t toA 122 to, aI t hoA 31 ho, aI t keA 31 ke]) (pmI [0, 1, 2, 3, 4, 5, 6, 7, 8, 9, 10, 11, 12] 13 rfl (by decide +kernel) rfl) (met_X5_isSpeed l D t x1 _ hv) rfl gX5_longest_X5_isSpeed rfl ⟨rfl, rfl⟩ ok_X5_isSpeed (by decide) (Nat.le_of_ble_eq_true rfl) dX5_longest_2 (by decide) (fun r_1 _ hv => ?_)
  try dsimp only at hv
  refine V_perm (ws1 := [oB hM 5 [.ref zA, .ref spA, .ref svA, .int (iI nsv), .ref soA, .ref ikA, .ref txA, .int (iI len), .int (iI thr), .int (iI nvi), .ref viA, .int (iI low), .int (iI high), .ref srA, .ref frA, .ref toA, .ref hoA, .ref keA, .int (iI nto), .int (iI spo), .int (iI mos)], aI t zA 646 z, aI t spA 646 sp, aI t svA 3876 sv, aI t soA 1292 so, aZ t ikA 2 ik, aI t txA 60 tx, aI t viA 120 vi, aI t srA 120 sr, aI t frA 122 fr, aI t toA 122 to, aI t hoA 31 ho, aI t keA 31 ke]) (pmI [0, 1, 2, 3, 4, 5, 6, 7, 8, 9, 10, 11, 12] 13 rfl (by decide +kernel) rfl) ?_
  refine V_if_eq (tgt := 12) hc dX5_longest_5 (by decide) hv (fun hv => ?_) (fun hv => ?_)
  · refine V_iconst hc dX5_longest_12 ?_
    exact C_13 thr nvi low high mos z sp vi sr fr to x1 1 hv
  · refine V_iconst hc dX5_longest_8 ?_
    refine V_goto (tgt := 13) hc dX5_longest_9 (by decide) ?_
    exact C_13 thr nvi low high mos z sp vi sr fr to x1 0 hv
abbrev W1_X5_leastSpeed (t : Nat → ClassId) (hM : Nat) (zA : Nat) (spA : Nat) (svA : Nat) (soA : Nat) (ikA : Nat) (txA : Nat) (viA : Nat) (srA : Nat) (frA : Nat) (toA : Nat) (hoA : Nat) (keA : Nat) (nsv : Int) (len : Int) (nto : Int) (spo : Int) (sv : Nat → Int) (so : Nat → Int) (ik : Nat → Int) (tx : Nat → Int) (ho : Nat → Int) (ke : Nat → Int) (u : (Int) × (Int) × (Int) × (Int) × (Int) × (Nat → Int) × (Nat → Int) × (Nat → Int) × (Nat → Int) × (Nat → Int) × (Nat → Int)) : va_W := [oB hM 5 [.ref zA, .ref spA, .ref svA, .int (iI nsv), .ref soA, .ref ikA, .ref txA, .int (iI len), .int (iI u.1), .int (iI u.2.1), .ref viA, .int (iI u.2.2.1), .int (iI u.2.2.2.1), .ref srA, .ref frA, .ref toA, .ref hoA, .ref keA, .int (iI nto), .int (iI spo), .int (iI u.2.2.2.2.1)], aI t zA 646 u.2.2.2.2.2.1, aI t spA 646 u.2.2.2.2.2.2.1, aI t svA 3876 sv, aI t soA 1292 so, aZ t ikA 2 ik, aI t txA 60 tx, aI t viA 120 u.2.2.2.2.2.2.2.1, aI t srA 120 u.2.2.2.2.2.2.2.2.1, aI t frA 122 u.2.2.2.2.2.2.2.2.2.1, aI t toA 122 u.2.2.2.2.2.2.2.2.2.2, aI t hoA 31 ho, aI t keA 31 ke]
abbrev po_X5_leastSpeed (Q : Int → (Int) → (Int) → (Int) → (Int) → (Int) → (Nat → Int) → (Nat → Int) → (Nat → Int) → (Nat → Int) → (Nat → Int) → (Nat → Int) → Prop) (r : Int) (u : (Int) × (Int) × (Int) × (Int) × (Int) × (Nat → Int) × (Nat → Int) × (Nat → Int) × (Nat → Int) × (Nat → Int) × (Nat → Int)) : Prop := Q r u.1 u.2.1 u.2.2.1 u.2.2.2.1 u.2.2.2.2.1 u.2.2.2.2.2.1 u.2.2.2.2.2.2.1 u.2.2.2.2.2.2.2.1 u.2.2.2.2.2.2.2.2.1 u.2.2.2.2.2.2.2.2.2.1 u.2.2.2.2.2.2.2.2.2.2
abbrev rm_X5_leastSpeed : Room := { frames := 6, cells := 0, slots := 0, locals := 141 }
def wp_X5_leastSpeed_24 (thr : Int) (x1 : Int) (Q : Int → (Int) → (Int) → (Int) → (Int) → (Int) → (Nat → Int) → (Nat → Int) → (Nat → Int) → (Nat → Int) → (Nat → Int) → (Nat → Int) → Prop) (K_24 : (Int) → (Int) → (Int) → (Int) → (Nat → Int) → (Nat → Int) → (Nat → Int) → (Nat → Int) → (Nat → Int) → (Nat → Int) → Int → Int → Prop) (nvi : Int) (low : Int) (high : Int) (mos : Int) (z : Nat → Int) (sp : Nat → Int) (vi : Nat → Int) (sr : Nat → Int) (fr : Nat → Int) (to : Nat → Int) (x2 : Int) (x3 : Int) : Prop := inR x3 ∧ (x3 ≤ 0 → Q x2 thr nvi low high mos z sp vi sr fr to) ∧ (¬ (x3 ≤ 0) → inR (z 482) ∧ (z 482 ≠ 1 → Q x2 thr nvi low high mos z sp vi sr fr to) ∧ (¬ (z 482 ≠ 1) → wp_X5_calls nvi low high mos z sp vi sr fr to x3 (fun r_2 nvi_2 low_2 high_2 mos_2 z_2 sp_2 vi_2 sr_2 fr_2 to_2 => inR r_2 ∧ inR x1 ∧ (r_2 > x1 → K_24 nvi_2 low_2 high_2 mos_2 z_2 sp_2 vi_2 sr_2 fr_2 to_2 x2 (x3 + (-1))) ∧ (¬ (r_2 > x1) → K_24 nvi_2 low_2 high_2 mos_2 z_2 sp_2 vi_2 sr_2 fr_2 to_2 x3 (x3 + (-1))))))
def wp_X5_leastSpeed_11 (thr : Int) (nvi : Int) (low : Int) (high : Int) (mos : Int) (z : Nat → Int) (sp : Nat → Int) (vi : Nat → Int) (sr : Nat → Int) (fr : Nat → Int) (to : Nat → Int) (x1 : Int) (s0 : Int) (Q : Int → (Int) → (Int) → (Int) → (Int) → (Int) → (Nat → Int) → (Nat → Int) → (Nat → Int) → (Nat → Int) → (Nat → Int) → (Nat → Int) → Prop) : Prop := wp_X5_refused thr s0 (fun r_1 thr_1 => inR r_1 ∧ (r_1 = 0 → (∃ n, lq12 (wp_X5_leastSpeed_24 thr_1 x1 Q) n nvi low high mos z sp vi sr fr to (-1) 8)) ∧ (¬ (r_1 = 0) → Q 0 thr_1 nvi low high mos z sp vi sr fr to))
def wp_X5_leastSpeed (thr : Int) (nvi : Int) (low : Int) (high : Int) (mos : Int) (z : Nat → Int) (sp : Nat → Int) (vi : Nat → Int) (sr : Nat → Int) (fr : Nat → Int) (to : Nat → Int) (x1 : Int) (Q : Int → (Int) → (Int) → (Int) → (Int) → (Int) → (Nat → Int) → (Nat → Int) → (Nat → Int) → (Nat → Int) → (Nat → Int) → (Nat → Int) → Prop) : Prop := inR x1 ∧ (x1 ≥ 1 → wp_X5_leastSpeed_11 thr nvi low high mos z sp vi sr fr to x1 0 Q) ∧ (¬ (x1 ≥ 1) → wp_X5_leastSpeed_11 thr nvi low high mos z sp vi sr fr to x1 1 Q)
theorem m_X5_leastSpeed_7 : Cond.fieldLink RX5 7 "BackgroundRebuildModel" "z" "[I" ∈ wsX5_leastSpeed := by decide +kernel
theorem i_X5_leastSpeed_5 : ∀ w ∈ u_ws RX5 TX5 21, w ∈ wsX5_leastSpeed := by decide +kernel
theorem ok_X5_leastSpeed : yX5_leastSpeed.cls = RX5 ∧ yX5_leastSpeed.cls ≠ "java/lang/invoke/MethodHandle" ∧ yX5_leastSpeed.cls ≠ "java/lang/invoke/VarHandle" ∧ (parseMethodDescriptor yX5_leastSpeed.desc).map (fun d => d.parameters.length) = some 1 := by decide +kernel
set_option maxHeartbeats 4000000 in
set_option maxRecDepth 100000 in
theorem met_X5_leastSpeed (l : Launch) (D : va_G) (t : Nat → ClassId) (hM : Nat) (zA : Nat) (spA : Nat) (svA : Nat) (soA : Nat) (ikA : Nat) (txA : Nat) (viA : Nat) (srA : Nat) (frA : Nat) (toA : Nat) (hoA : Nat) (keA : Nat) (nsv : Int) (len : Int) (thr : Int) (nvi : Int) (low : Int) (high : Int) (nto : Int) (spo : Int) (mos : Int) (z : Nat → Int) (sp : Nat → Int) (sv : Nat → Int) (so : Nat → Int) (ik : Nat → Int) (tx : Nat → Int) (vi : Nat → Int) (sr : Nat → Int) (fr : Nat → Int) (to : Nat → Int) (ho : Nat → Int) (ke : Nat → Int) (x1 : Int) (Q : Int → (Int) → (Int) → (Int) → (Int) → (Int) → (Nat → Int) → (Nat → Int) → (Nat → Int) → (Nat → Int) → (Nat → Int) → (Nat → Int) → Prop) (hv : wp_X5_leastSpeed thr nvi low high mos z sp vi sr fr to x1 Q) : MI l D t yX5_leastSpeed wsX5_leastSpeed rm_X5_leastSpeed [.ref hM, .int (iI x1)] [oB hM 5 [.ref zA, .ref spA, .ref svA, .int (iI nsv), .ref soA, .ref ikA, .ref txA, .int (iI len), .int (iI thr), .int (iI nvi), .ref viA, .int (iI low), .int (iI high), .ref srA, .ref frA, .ref toA, .ref hoA, .ref keA, .int (iI nto), .int (iI spo), .int (iI mos)], aI t zA 646 z, aI t spA 646 sp, aI t svA 3876 sv, aI t soA 1292 so, aZ t ikA 2 ik, aI t txA 60 tx, aI t viA 120 vi, aI t srA 120 sr, aI t frA 122 fr, aI t toA 122 to, aI t hoA 31 ho, aI t keA 31 ke] (W1_X5_leastSpeed t hM zA spA svA soA ikA txA viA srA frA toA hoA keA nsv len nto spo sv so ik tx ho ke) (po_X5_leastSpeed Q) 0 0 := by
  refine M_ofi (cc := cX5_leastSpeed) (nL := 4) (by decide) rfl (Nat.le_of_ble_eq_true rfl) ?_
  intro p e s m args below meth c A hc hr
  have L_24 : ∀ (thr : Int) (x1 : Int) (n9 : Nat) (nvi : Int) (low : Int) (high : Int) (mos : Int) (z : Nat → Int) (sp : Nat → Int) (vi : Nat → Int) (sr : Nat → Int) (fr : Nat → Int) (to : Nat → Int) (x2 : Int) (x3 : Int), lq12 (wp_X5_leastSpeed_24 thr x1 Q) n9 nvi low high mos z sp vi sr fr to x2 x3 → V p l e rm_X5_leastSpeed s m args below meth c D A 4 0 0 (MQ below (QI D A (W1_X5_leastSpeed t hM zA spA svA soA ikA txA viA srA frA toA hoA keA nsv len nto spo sv so ik tx ho ke) (po_X5_leastSpeed Q)) args s 0 0 A) 24 [(0, .ref hM), (1, .int (iI x1)), (2, .int (iI x2)), (3, .int (iI x3))] [] [oB hM 5 [.ref zA, .ref spA, .ref svA, .int (iI nsv), .ref soA, .ref ikA, .ref txA, .int (iI len), .int (iI thr), .int (iI nvi), .ref viA, .int (iI low), .int (iI high), .ref srA, .ref frA, .ref toA, .ref hoA, .ref keA, .int (iI nto), .int (iI spo), .int (iI mos)], aI t zA 646 z, aI t spA 646 sp, aI t svA 3876 sv, aI t soA 1292 so, aZ t ikA 2 ik, aI t txA 60 tx, aI t viA 120 vi, aI t srA 120 sr, aI t frA 122 fr, aI t toA 122 to, aI t hoA 31 ho, aI t keA 31 ke] := by
    intro thr x1 n9
    induction n9 with
    | zero =>
      intro nvi low high mos z sp vi sr fr to x2 x3 hv
      exact hv.elim
    | succ n9 ih =>
      intro nvi low high mos z sp vi sr fr to x2 x3 hv
      have hv : wp_X5_leastSpeed_24 thr x1 Q (lq12 (wp_X5_leastSpeed_24 thr x1 Q) n9) nvi low high mos z sp vi sr fr to x2 x3 := hv
      generalize lq12 (wp_X5_leastSpeed_24 thr x1 Q) n9 = K_24 at hv ih
      have hK_24 := ih
      unfold wp_X5_leastSpeed_24 at hv
      refine V_iload_n hc dX5_leastSpeed_24 3 rfl ?_
      refine V_if_le (tgt := 61) hc dX5_leastSpeed_25 (by decide) hv (fun hv => ?_) (fun hv => ?_)
      · refine V_iload_n hc dX5_leastSpeed_61 2 rfl ?_
        exact V_iret hc hr (thr, nvi, low, high, mos, z, sp, vi, sr, fr, to) hv rfl dX5_leastSpeed_62
      · refine V_aload_n hc dX5_leastSpeed_28 0 rfl ?_
        refine V_get (C := RX5) (T := TX5) (N := 21) hc i_X5_leastSpeed_5 0 rfl rfl 0 (by decide) m_X5_leastSpeed_7 rfl dX5_leastSpeed_29 ?_
        refine V_sipush hc dX5_leastSpeed_32 (by decide) ?_
        refine V_iald hc 1 rfl (by decide) ⟨by decide, hv⟩ dX5_leastSpeed_35 (fun hv => ?_)
        refine V_iconst hc dX5_leastSpeed_36 ?_
        refine V_icmp_ne (tgt := 61) hc dX5_leastSpeed_37 (by decide) ⟨hv.1, by decide, hv.2⟩ (fun hv => ?_) (fun hv => ?_)
        · refine V_iload_n hc dX5_leastSpeed_61 2 rfl ?_
          exact V_iret hc hr (thr, nvi, low, high, mos, z, sp, vi, sr, fr, to) hv rfl dX5_leastSpeed_62
        · refine V_aload_n hc dX5_leastSpeed_40 0 rfl ?_
          refine V_iload_n hc dX5_leastSpeed_41 3 rfl ?_
          refine V_callVI (As := [.int (iI x3)]) hc (wc := [oB hM 5 [.ref zA, .ref spA, .ref svA, .int (iI nsv), .ref soA, .ref ikA, .ref txA, .int (iI len), .int (iI thr), .int (iI nvi), .ref viA, .int (iI low), .int (iI high), .ref srA, .ref frA, .ref toA, .ref hoA, .ref keA, .int (iI nto), .int (iI spo), .int (iI mos)], aI t zA 646 z, aI t spA 646 sp, aI t svA 3876 sv, aI t soA 1292 so, aZ t ikA 2 ik, aI t txA 60 tx, aI t viA 120 vi, aI t srA 120 sr, aI t frA 122 fr, aI t toA 122 to, aI t hoA 31 ho, aI t keA 31 ke]) (wr := []) (pmI [0, 1, 2, 3, 4, 5, 6, 7, 8, 9, 10, 11, 12] 13 rfl (by decide +kernel) rfl) rfl rfl (met_X5_calls l D t hM zA spA svA soA ikA txA viA srA frA toA hoA keA nsv len thr nvi low high nto spo mos z sp sv so ik tx vi sr fr to ho ke x3 _ hv) rfl gX5_leastSpeed_X5_calls rfl ⟨rfl, rfl⟩ ok_X5_calls (by decide) (Nat.le_of_ble_eq_true rfl) dX5_leastSpeed_42 (by decide) (fun r_2 u9 hv => ?_)
          obtain ⟨nvi_2, low_2, high_2, mos_2, z_2, sp_2, vi_2, sr_2, fr_2, to_2⟩ := u9
          try dsimp only at hv
          refine V_perm (ws1 := [oB hM 5 [.ref zA, .ref spA, .ref svA, .int (iI nsv), .ref soA, .ref ikA, .ref txA, .int (iI len), .int (iI thr), .int (iI nvi_2), .ref viA, .int (iI low_2), .int (iI high_2), .ref srA, .ref frA, .ref toA, .ref hoA, .ref keA, .int (iI nto), .int (iI spo), .int (iI mos_2)], aI t zA 646 z_2, aI t spA 646 sp_2, aI t svA 3876 sv, aI t soA 1292 so, aZ t ikA 2 ik, aI t txA 60 tx, aI t viA 120 vi_2, aI t srA 120 sr_2, aI t frA 122 fr_2, aI t toA 122 to_2, aI t hoA 31 ho, aI t keA 31 ke]) (pmI [0, 1, 2, 3, 4, 5, 6, 7, 8, 9, 10, 11, 12] 13 rfl (by decide +kernel) rfl) ?_
          refine V_iload_n hc dX5_leastSpeed_45 1 rfl ?_
          refine V_icmp_gt (tgt := 53) hc dX5_leastSpeed_46 (by decide) hv (fun hv => ?_) (fun hv => ?_)
          · refine V_iload_n hc dX5_leastSpeed_53 2 rfl ?_
            refine V_istore_n hc dX5_leastSpeed_54 [(2, .int (iI x2)), (0, .ref hM), (1, .int (iI x1)), (3, .int (iI x3))] (by decide) rfl ?_
            refine V_iinc hc dX5_leastSpeed_55 3 rfl [(3, .int (iI (x3 + (-1)))), (2, .int (iI x2)), (0, .ref hM), (1, .int (iI x1))] (by decide) rfl ?_
            refine V_goto (tgt := 24) hc dX5_leastSpeed_58 (by decide) ?_
            refine V_lv [2, 3, 1, 0] [(0, .ref hM), (1, .int (iI x1)), (2, .int (iI x2)), (3, .int (iI (x3 + (-1))))] rfl ?_
            exact hK_24 nvi_2 low_2 high_2 mos_2 z_2 sp_2 vi_2 sr_2 fr_2 to_2 x2 (x3 + (-1)) hv
          · refine V_iload_n hc dX5_leastSpeed_49 3 rfl ?_
            refine V_goto (tgt := 54) hc dX5_leastSpeed_50 (by decide) ?_
            refine V_istore_n hc dX5_leastSpeed_54 [(2, .int (iI x3)), (0, .ref hM), (1, .int (iI x1)), (3, .int (iI x3))] (by decide) rfl ?_
            refine V_iinc hc dX5_leastSpeed_55 3 rfl [(3, .int (iI (x3 + (-1)))), (2, .int (iI x3)), (0, .ref hM), (1, .int (iI x1))] (by decide) rfl ?_
            refine V_goto (tgt := 24) hc dX5_leastSpeed_58 (by decide) ?_
            refine V_lv [2, 3, 1, 0] [(0, .ref hM), (1, .int (iI x1)), (2, .int (iI x3)), (3, .int (iI (x3 + (-1))))] rfl ?_
            exact hK_24 nvi_2 low_2 high_2 mos_2 z_2 sp_2 vi_2 sr_2 fr_2 to_2 x3 (x3 + (-1)) hv
  have C_11 : ∀ (thr : Int) (nvi : Int) (low : Int) (high : Int) (mos : Int) (z : Nat → Int) (sp : Nat → Int) (vi : Nat → Int) (sr : Nat → Int) (fr : Nat → Int) (to : Nat → Int) (x1 : Int) (s0 : Int), wp_X5_leastSpeed_11 thr nvi low high mos z sp vi sr fr to x1 s0 Q → V p l e rm_X5_leastSpeed s m args below meth c D A 4 0 0 (MQ below (QI D A (W1_X5_leastSpeed t hM zA spA svA soA ikA txA viA srA frA toA hoA keA nsv len nto spo sv so ik tx ho ke) (po_X5_leastSpeed Q)) args s 0 0 A) 11 [(0, .ref hM), (1, .int (iI x1))] [.int (iI s0), .ref hM] [oB hM 5 [.ref zA, .ref spA, .ref svA, .int (iI nsv), .ref soA, .ref ikA, .ref txA, .int (iI len), .int (iI thr), .int (iI nvi), .ref viA, .int (iI low), .int (iI high), .ref srA, .ref frA, .ref toA, .ref hoA, .ref keA, .int (iI nto), .int (iI spo), .int (iI mos)], aI t zA 646 z, aI t spA 646 sp, aI t svA 3876 sv, aI t soA 1292 so, aZ t ikA 2 ik, aI t txA 60 tx, aI t viA 120 vi, aI t srA 120 sr, aI t frA 122 fr, aI t toA 122 to, aI t hoA 31 ho, aI t keA 31 ke] := by
    intro thr nvi low high mos z sp vi sr fr to x1 s0 hv
    unfold wp_X5_leastSpeed_11 at hv
    refine V_callVI (As := [.int (iI s0)]) hc (wc := [oB hM 5 [.ref zA, .ref spA, .ref svA, .int (iI nsv), .ref soA, .ref ikA, .ref txA, .int (iI len), .int (iI thr), .int (iI nvi), .ref viA, .int (iI low), .int (iI high), .ref srA, .ref frA, .ref toA, .ref hoA, .ref keA, .int (iI nto), .int (iI spo), .int (iI mos)], aI t zA 646 z, aI t spA 646 sp, aI t svA 3876 sv, aI t soA 1292 so, aZ t ikA 2 ik, aI t txA 60 tx, aI t viA 120 vi, aI t srA 120 sr, aI t frA 122 fr, aI t toA 122 to, aI t hoA 31 ho, aI t keA 31 ke]) (wr := []) (pmI [0, 1, 2, 3, 4, 5, 6, 7, 8, 9, 10, 11, 12] 13 rfl (by decide +kernel) rfl) rfl rfl (met_X5_refused l D t hM zA spA svA soA ikA txA viA srA frA toA hoA keA nsv len thr nvi low high nto spo mos z sp sv so ik tx vi sr fr to ho ke s0 _ hv) rfl gX5_leastSpeed_X5_refused rfl ⟨rfl, rfl⟩ ok_X5_refused (by decide) (Nat.le_of_ble_eq_true rfl) dX5_leastSpeed_11 (by decide) (fun r_1 u9 hv => ?_)
    obtain ⟨thr_1, h9⟩ : ∃ z, z = u9 := ⟨_, rfl⟩
    subst h9
    try dsimp only at hv
    refine V_perm (ws1 := [oB hM 5 [.ref zA, .ref spA, .ref svA, .int (iI nsv), .ref soA, .ref ikA, .ref txA, .int (iI len), .int (iI thr_1), .int (iI nvi), .ref viA, .int (iI low), .int (iI high), .ref srA, .ref frA, .ref toA, .ref hoA, .ref keA, .int (iI nto), .int (iI spo), .int (iI mos)], aI t zA 646 z, aI t spA 646 sp, aI t svA 3876 sv, aI t soA 1292 so, aZ t ikA 2 ik, aI t txA 60 tx, aI t viA 120 vi, aI t srA 120 sr, aI t frA 122 fr, aI t toA 122 to, aI t hoA 31 ho, aI t keA 31 ke]) (pmI [0, 1, 2, 3, 4, 5, 6, 7, 8, 9, 10, 11, 12] 13 rfl (by decide +kernel) rfl) ?_
    refine V_if_eq (tgt := 19) hc dX5_leastSpeed_14 (by decide) hv (fun hv => ?_) (fun hv => ?_)
    · refine V_iconst hc dX5_leastSpeed_19 ?_
      refine V_istore_n hc dX5_leastSpeed_20 [(2, .int (iI (-1))), (0, .ref hM), (1, .int (iI x1))] (by decide) rfl ?_
      refine V_bipush hc dX5_leastSpeed_21 (by decide) ?_
      refine V_istore_n hc dX5_leastSpeed_23 [(3, .int (iI 8)), (2, .int (iI (-1))), (0, .ref hM), (1, .int (iI x1))] (by decide) rfl ?_
      refine V_lv [2, 3, 1, 0] [(0, .ref hM), (1, .int (iI x1)), (2, .int (iI (-1))), (3, .int (iI 8))] rfl ?_
      obtain ⟨n9, hv⟩ := hv
      exact L_24 thr_1 x1 n9 nvi low high mos z sp vi sr fr to (-1) 8 hv
    · refine V_iconst hc dX5_leastSpeed_17 ?_
      exact V_iret hc hr (thr_1, nvi, low, high, mos, z, sp, vi, sr, fr, to) hv rfl dX5_leastSpeed_18
  refine V_lv [0, 1] [(0, .ref hM), (1, .int (iI x1))] rfl ?_
  unfold wp_X5_leastSpeed at hv
  refine V_aload_n hc dX5_leastSpeed_0 0 rfl ?_
  refine V_iload_n hc dX5_leastSpeed_1 1 rfl ?_
  refine V_iconst hc dX5_leastSpeed_2 ?_
  refine V_icmp_ge (tgt := 10) hc dX5_leastSpeed_3 (by decide) ⟨hv.1, by decide, hv.2⟩ (fun hv => ?_) (fun hv => ?_)
  · refine V_iconst hc dX5_leastSpeed_10 ?_
    exact C_11 thr nvi low high mos z sp vi sr fr to x1 0 hv
  · refine V_iconst hc dX5_leastSpeed_6 ?_
    refine V_goto (tgt := 11) hc dX5_leastSpeed_7 (by decide) ?_
    exact C_11 thr nvi low high mos z sp vi sr fr to x1 1 hv
