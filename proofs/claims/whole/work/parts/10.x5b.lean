abbrev W1_X5_queue (t : Nat → ClassId) (hM : Nat) (zA : Nat) (spA : Nat) (svA : Nat) (soA : Nat) (ikA : Nat) (txA : Nat) (viA : Nat) (srA : Nat) (frA : Nat) (toA : Nat) (hoA : Nat) (keA : Nat) (nsv : Int) (len : Int) (thr : Int) (nvi : Int) (low : Int) (high : Int) (nto : Int) (spo : Int) (mos : Int) (sp : Nat → Int) (sv : Nat → Int) (so : Nat → Int) (ik : Nat → Int) (tx : Nat → Int) (vi : Nat → Int) (sr : Nat → Int) (fr : Nat → Int) (to : Nat → Int) (ho : Nat → Int) (ke : Nat → Int) (u : (Nat → Int)) : va_W := [oB hM 5 [.ref zA, .ref spA, .ref svA, .int (iI nsv), .ref soA, .ref ikA, .ref txA, .int (iI len), .int (iI thr), .int (iI nvi), .ref viA, .int (iI low), .int (iI high), .ref srA, .ref frA, .ref toA, .ref hoA, .ref keA, .int (iI nto), .int (iI spo), .int (iI mos)], aI t zA 646 u, aI t spA 646 sp, aI t svA 3876 sv, aI t soA 1292 so, aZ t ikA 2 ik, aI t txA 60 tx, aI t viA 120 vi, aI t srA 120 sr, aI t frA 122 fr, aI t toA 122 to, aI t hoA 31 ho, aI t keA 31 ke]
abbrev po_X5_queue (Q : (Nat → Int) → Prop) (u : (Nat → Int)) : Prop := Q u
abbrev rm_X5_queue : Room := { frames := 1, cells := 0, slots := 0, locals := 20 }
def wp_X5_queue_59 (z : Nat → Int) (s0 : Int) (s1 : Int) (Q : (Nat → Int) → Prop) : Prop := (0 ≤ s1 ∧ s1 < 646) ∧ Q (uI (uI z (s1.toNat) s0) 485 (((uI z (s1.toNat) s0) 485) + 1))
def wp_X5_queue (z : Nat → Int) (x1 : Int) (x2 : Int) (Q : (Nat → Int) → Prop) : Prop := inR (z 485) ∧ (z 485 ≠ 30 → inR x1 ∧ (x1 ≠ 0 → wp_X5_queue_59 z (500 + x2) (606 + (z 485)) Q) ∧ (¬ (x1 ≠ 0) → wp_X5_queue_59 z x2 (606 + (z 485)) Q)) ∧ (¬ (z 485 ≠ 30) → wp_X5_endNow z (fun z_1 => Q (uI z_1 645 ((z_1 645) + 1))))
theorem m_X5_queue_7 : Cond.fieldLink RX5 7 "BackgroundRebuildModel" "z" "[I" ∈ wsX5_queue := by decide +kernel
theorem i_X5_queue_5 : ∀ w ∈ u_ws RX5 TX5 21, w ∈ wsX5_queue := by decide +kernel
theorem ok_X5_queue : yX5_queue.cls = RX5 ∧ yX5_queue.cls ≠ "java/lang/invoke/MethodHandle" ∧ yX5_queue.cls ≠ "java/lang/invoke/VarHandle" ∧ (parseMethodDescriptor yX5_queue.desc).map (fun d => d.parameters.length) = some 2 := by decide +kernel
set_option maxHeartbeats 4000000 in
set_option maxRecDepth 100000 in
theorem met_X5_queue (l : Launch) (D : va_G) (t : Nat → ClassId) (hM : Nat) (zA : Nat) (spA : Nat) (svA : Nat) (soA : Nat) (ikA : Nat) (txA : Nat) (viA : Nat) (srA : Nat) (frA : Nat) (toA : Nat) (hoA : Nat) (keA : Nat) (nsv : Int) (len : Int) (thr : Int) (nvi : Int) (low : Int) (high : Int) (nto : Int) (spo : Int) (mos : Int) (z : Nat → Int) (sp : Nat → Int) (sv : Nat → Int) (so : Nat → Int) (ik : Nat → Int) (tx : Nat → Int) (vi : Nat → Int) (sr : Nat → Int) (fr : Nat → Int) (to : Nat → Int) (ho : Nat → Int) (ke : Nat → Int) (x1 : Int) (x2 : Int) (Q : (Nat → Int) → Prop) (hv : wp_X5_queue z x1 x2 Q) : MV l D t yX5_queue wsX5_queue rm_X5_queue [.ref hM, .int (iI x1), .int (iI x2)] [oB hM 5 [.ref zA, .ref spA, .ref svA, .int (iI nsv), .ref soA, .ref ikA, .ref txA, .int (iI len), .int (iI thr), .int (iI nvi), .ref viA, .int (iI low), .int (iI high), .ref srA, .ref frA, .ref toA, .ref hoA, .ref keA, .int (iI nto), .int (iI spo), .int (iI mos)], aI t zA 646 z, aI t spA 646 sp, aI t svA 3876 sv, aI t soA 1292 so, aZ t ikA 2 ik, aI t txA 60 tx, aI t viA 120 vi, aI t srA 120 sr, aI t frA 122 fr, aI t toA 122 to, aI t hoA 31 ho, aI t keA 31 ke] (W1_X5_queue t hM zA spA svA soA ikA txA viA srA frA toA hoA keA nsv len thr nvi low high nto spo mos sp sv so ik tx vi sr fr to ho ke) (po_X5_queue Q) 0 0 := by
  refine M_ofv (cc := cX5_queue) (nL := 3) (by decide) rfl (Nat.le_of_ble_eq_true rfl) ?_
  intro p e s m args below meth c A hc hr
  have C_59 : ∀ (z : Nat → Int) (s0 : Int) (s1 : Int), wp_X5_queue_59 z s0 s1 Q → V p l e rm_X5_queue s m args below meth c D A 3 0 0 (MQ below (QV D A (W1_X5_queue t hM zA spA svA soA ikA txA viA srA frA toA hoA keA nsv len thr nvi low high nto spo mos sp sv so ik tx vi sr fr to ho ke) (po_X5_queue Q)) args s 0 0 A) 59 [(0, .ref hM)] [.int (iI s0), .int (iI s1), .ref zA] [oB hM 5 [.ref zA, .ref spA, .ref svA, .int (iI nsv), .ref soA, .ref ikA, .ref txA, .int (iI len), .int (iI thr), .int (iI nvi), .ref viA, .int (iI low), .int (iI high), .ref srA, .ref frA, .ref toA, .ref hoA, .ref keA, .int (iI nto), .int (iI spo), .int (iI mos)], aI t zA 646 z, aI t spA 646 sp, aI t svA 3876 sv, aI t soA 1292 so, aZ t ikA 2 ik, aI t txA 60 tx, aI t viA 120 vi, aI t srA 120 sr, aI t frA 122 fr, aI t toA 122 to, aI t hoA 31 ho, aI t keA 31 ke] := by
    intro z s0 s1 hv
    unfold wp_X5_queue_59 at hv
    refine V_iast hc 1 rfl (by decide) hv dX5_queue_59 [oB hM 5 [.ref zA, .ref spA, .ref svA, .int (iI nsv), .ref soA, .ref ikA, .ref txA, .int (iI len), .int (iI thr), .int (iI nvi), .ref viA, .int (iI low), .int (iI high), .ref srA, .ref frA, .ref toA, .ref hoA, .ref keA, .int (iI nto), .int (iI spo), .int (iI mos)], aI t zA 646 (uI z (s1.toNat) s0), aI t spA 646 sp, aI t svA 3876 sv, aI t soA 1292 so, aZ t ikA 2 ik, aI t txA 60 tx, aI t viA 120 vi, aI t srA 120 sr, aI t frA 122 fr, aI t toA 122 to, aI t hoA 31 ho, aI t keA 31 ke] rfl (fun hv => ?_)
    refine V_aload_n hc dX5_queue_60 0 rfl ?_
    refine V_get (C := RX5) (T := TX5) (N := 21) hc i_X5_queue_5 0 rfl rfl 0 (by decide) m_X5_queue_7 rfl dX5_queue_61 ?_
    refine V_sipush hc dX5_queue_64 (by decide) ?_
    refine V_dup2 hc dX5_queue_67 rfl rfl ?_
    refine V_iald hc 1 rfl (by decide) ⟨by decide, hv⟩ dX5_queue_68 (fun hv => ?_)
    refine V_iconst hc dX5_queue_69 ?_
    refine V_iadd hc dX5_queue_70 ?_
    refine V_iast hc 1 rfl (by decide) ⟨by decide, hv⟩ dX5_queue_71 [oB hM 5 [.ref zA, .ref spA, .ref svA, .int (iI nsv), .ref soA, .ref ikA, .ref txA, .int (iI len), .int (iI thr), .int (iI nvi), .ref viA, .int (iI low), .int (iI high), .ref srA, .ref frA, .ref toA, .ref hoA, .ref keA, .int (iI nto), .int (iI spo), .int (iI mos)], aI t zA 646 (uI (uI z (s1.toNat) s0) 485 (((uI z (s1.toNat) s0) 485) + 1)), aI t spA 646 sp, aI t svA 3876 sv, aI t soA 1292 so, aZ t ikA 2 ik, aI t txA 60 tx, aI t viA 120 vi, aI t srA 120 sr, aI t frA 122 fr, aI t toA 122 to, aI t hoA 31 ho, aI t keA 31 ke] rfl (fun hv => ?_)
    exact V_vret hc hr (uI (uI z (s1.toNat) s0) 485 (((uI z (s1.toNat) s0) 485) + 1)) hv rfl dX5_queue_72
  refine V_lv [0, 1, 2] [(0, .ref hM), (1, .int (iI x1)), (2, .int (iI x2))] rfl ?_
  unfold wp_X5_queue at hv
  refine V_aload_n hc dX5_queue_0 0 rfl ?_
  refine V_get (C := RX5) (T := TX5) (N := 21) hc i_X5_queue_5 0 rfl rfl 0 (by decide) m_X5_queue_7 rfl dX5_queue_1 ?_
  refine V_sipush hc dX5_queue_4 (by decide) ?_
  refine V_iald hc 1 rfl (by decide) ⟨by decide, hv⟩ dX5_queue_7 (fun hv => ?_)
  refine V_bipush hc dX5_queue_8 (by decide) ?_
  refine V_icmp_ne (tgt := 30) hc dX5_queue_10 (by decide) ⟨hv.1, by decide, hv.2⟩ (fun hv => ?_) (fun hv => ?_)
  · refine V_aload_n hc dX5_queue_30 0 rfl ?_
    refine V_get (C := RX5) (T := TX5) (N := 21) hc i_X5_queue_5 0 rfl rfl 0 (by decide) m_X5_queue_7 rfl dX5_queue_31 ?_
    refine V_sipush hc dX5_queue_34 (by decide) ?_
    refine V_aload_n hc dX5_queue_37 0 rfl ?_
    refine V_get (C := RX5) (T := TX5) (N := 21) hc i_X5_queue_5 0 rfl rfl 0 (by decide) m_X5_queue_7 rfl dX5_queue_38 ?_
    refine V_sipush hc dX5_queue_41 (by decide) ?_
    refine V_iald hc 1 rfl (by decide) ⟨by decide, hv⟩ dX5_queue_44 (fun hv => ?_)
    refine V_iadd hc dX5_queue_45 ?_
    refine V_iload_n hc dX5_queue_46 1 rfl ?_
    refine V_if_ne (tgt := 54) hc dX5_queue_47 (by decide) hv (fun hv => ?_) (fun hv => ?_)
    · refine V_sipush hc dX5_queue_54 (by decide) ?_
      refine V_iload_n hc dX5_queue_57 2 rfl ?_
      refine V_iadd hc dX5_queue_58 ?_
      refine V_lv [0] [(0, .ref hM)] rfl ?_
      exact C_59 z (500 + x2) (606 + (z 485)) hv
    · refine V_iload_n hc dX5_queue_50 2 rfl ?_
      refine V_goto (tgt := 59) hc dX5_queue_51 (by decide) ?_
      refine V_lv [0] [(0, .ref hM)] rfl ?_
      exact C_59 z x2 (606 + (z 485)) hv
  · refine V_aload_n hc dX5_queue_13 0 rfl ?_
    refine V_callVV (As := []) hc (wc := [oB hM 5 [.ref zA, .ref spA, .ref svA, .int (iI nsv), .ref soA, .ref ikA, .ref txA, .int (iI len), .int (iI thr), .int (iI nvi), .ref viA, .int (iI low), .int (iI high), .ref srA, .ref frA, .ref toA, .ref hoA, .ref keA, .int (iI nto), .int (iI spo), .int (iI mos)], aI t zA 646 z, aI t spA 646 sp, aI t svA 3876 sv, aI t soA 1292 so, aZ t ikA 2 ik, aI t txA 60 tx, aI t viA 120 vi, aI t srA 120 sr, aI t frA 122 fr, aI t toA 122 to, aI t hoA 31 ho, aI t keA 31 ke]) (wr := []) (pmI [0, 1, 2, 3, 4, 5, 6, 7, 8, 9, 10, 11, 12] 13 rfl (by decide +kernel) rfl) rfl rfl (met_X5_endNow l D t hM zA spA svA soA ikA txA viA srA frA toA hoA keA nsv len thr nvi low high nto spo mos z sp sv so ik tx vi sr fr to ho ke _ hv) rfl gX5_queue_X5_endNow rfl ⟨rfl, rfl⟩ ok_X5_endNow (by decide) (Nat.le_of_ble_eq_true rfl) dX5_queue_14 (by decide) (fun u9 hv => ?_)
    obtain ⟨z_1, h9⟩ : ∃ z, z = u9 := ⟨_, rfl⟩
    subst h9
    try dsimp only at hv
    refine V_perm (ws1 := [oB hM 5 [.ref zA, .ref spA, .ref svA, .int (iI nsv), .ref soA, .ref ikA, .ref txA, .int (iI len), .int (iI thr), .int (iI nvi), .ref viA, .int (iI low), .int (iI high), .ref srA, .ref frA, .ref toA, .ref hoA, .ref keA, .int (iI nto), .int (iI spo), .int (iI mos)], aI t zA 646 z_1, aI t spA 646 sp, aI t svA 3876 sv, aI t soA 1292 so, aZ t ikA 2 ik, aI t txA 60 tx, aI t viA 120 vi, aI t srA 120 sr, aI t frA 122 fr, aI t toA 122 to, aI t hoA 31 ho, aI t keA 31 ke]) (pmI [0, 1, 2, 3, 4, 5, 6, 7, 8, 9, 10, 11, 12] 13 rfl (by decide +kernel) rfl) ?_
    refine V_aload_n hc dX5_queue_17 0 rfl ?_
    refine V_get (C := RX5) (T := TX5) (N := 21) hc i_X5_queue_5 0 rfl rfl 0 (by decide) m_X5_queue_7 rfl dX5_queue_18 ?_
    refine V_sipush hc dX5_queue_21 (by decide) ?_
    refine V_dup2 hc dX5_queue_24 rfl rfl ?_
    refine V_iald hc 1 rfl (by decide) ⟨by decide, hv⟩ dX5_queue_25 (fun hv => ?_)
    refine V_iconst hc dX5_queue_26 ?_
    refine V_iadd hc dX5_queue_27 ?_
    refine V_iast hc 1 rfl (by decide) ⟨by decide, hv⟩ dX5_queue_28 [oB hM 5 [.ref zA, .ref spA, .ref svA, .int (iI nsv), .ref soA, .ref ikA, .ref txA, .int (iI len), .int (iI thr), .int (iI nvi), .ref viA, .int (iI low), .int (iI high), .ref srA, .ref frA, .ref toA, .ref hoA, .ref keA, .int (iI nto), .int (iI spo), .int (iI mos)], aI t zA 646 (uI z_1 645 ((z_1 645) + 1)), aI t spA 646 sp, aI t svA 3876 sv, aI t soA 1292 so, aZ t ikA 2 ik, aI t txA 60 tx, aI t viA 120 vi, aI t srA 120 sr, aI t frA 122 fr, aI t toA 122 to, aI t hoA 31 ho, aI t keA 31 ke] rfl (fun hv => ?_)
    exact V_vret hc hr (uI z_1 645 ((z_1 645) + 1)) hv rfl dX5_queue_29
abbrev W1_X5_act (t : Nat → ClassId) (hM : Nat) (zA : Nat) (spA : Nat) (svA : Nat) (soA : Nat) (ikA : Nat) (txA : Nat) (viA : Nat) (srA : Nat) (frA : Nat) (toA : Nat) (hoA : Nat) (keA : Nat) (nsv : Int) (len : Int) (thr : Int) (nto : Int) (spo : Int) (mos : Int) (sp : Nat → Int) (sv : Nat → Int) (so : Nat → Int) (ik : Nat → Int) (tx : Nat → Int) (ho : Nat → Int) (ke : Nat → Int) (u : (Int) × (Int) × (Int) × (Nat → Int) × (Nat → Int) × (Nat → Int) × (Nat → Int) × (Nat → Int)) : va_W := [oB hM 5 [.ref zA, .ref spA, .ref svA, .int (iI nsv), .ref soA, .ref ikA, .ref txA, .int (iI len), .int (iI thr), .int (iI u.1), .ref viA, .int (iI u.2.1), .int (iI u.2.2.1), .ref srA, .ref frA, .ref toA, .ref hoA, .ref keA, .int (iI nto), .int (iI spo), .int (iI mos)], aI t zA 646 u.2.2.2.1, aI t spA 646 sp, aI t svA 3876 sv, aI t soA 1292 so, aZ t ikA 2 ik, aI t txA 60 tx, aI t viA 120 u.2.2.2.2.1, aI t srA 120 u.2.2.2.2.2.1, aI t frA 122 u.2.2.2.2.2.2.1, aI t toA 122 u.2.2.2.2.2.2.2, aI t hoA 31 ho, aI t keA 31 ke]
abbrev po_X5_act (Q : Int → (Int) → (Int) → (Int) → (Nat → Int) → (Nat → Int) → (Nat → Int) → (Nat → Int) → (Nat → Int) → Prop) (r : Int) (u : (Int) × (Int) × (Int) × (Nat → Int) × (Nat → Int) × (Nat → Int) × (Nat → Int) × (Nat → Int)) : Prop := Q r u.1 u.2.1 u.2.2.1 u.2.2.2.1 u.2.2.2.2.1 u.2.2.2.2.2.1 u.2.2.2.2.2.2.1 u.2.2.2.2.2.2.2
abbrev rm_X5_act : Room := { frames := 4, cells := 0, slots := 0, locals := 93 }
def wp_X5_act_208 (nvi : Int) (low : Int) (high : Int) (z : Nat → Int) (vi : Nat → Int) (sr : Nat → Int) (fr : Nat → Int) (to : Nat → Int) (x3 : Int) (s0 : Int) (s1 : Int) (Q : Int → (Int) → (Int) → (Int) → (Nat → Int) → (Nat → Int) → (Nat → Int) → (Nat → Int) → (Nat → Int) → Prop) : Prop := (0 ≤ s1 ∧ s1 < 646) ∧ Q x3 nvi low high (uI (uI (uI z (s1.toNat) s0) 641 (((uI z (s1.toNat) s0) 641) + x3)) 642 (((uI (uI z (s1.toNat) s0) 641 (((uI z (s1.toNat) s0) 641) + x3)) 642) + 1)) vi sr fr to
def wp_X5_act_168 (nvi : Int) (low : Int) (high : Int) (z : Nat → Int) (vi : Nat → Int) (sr : Nat → Int) (fr : Nat → Int) (to : Nat → Int) (x3 : Int) (Q : Int → (Int) → (Int) → (Int) → (Nat → Int) → (Nat → Int) → (Nat → Int) → (Nat → Int) → (Nat → Int) → Prop) : Prop := inR x3 ∧ inR ((uI z 639 x3) 640) ∧ (x3 ≤ (uI z 639 x3) 640 → wp_X5_act_208 nvi low high (uI z 639 x3) vi sr fr to x3 ((uI z 639 x3) 640) 640 Q) ∧ (¬ (x3 ≤ (uI z 639 x3) 640) → wp_X5_act_208 nvi low high (uI z 639 x3) vi sr fr to x3 x3 640 Q)
def wp_X5_act_164 (nvi : Int) (low : Int) (high : Int) (z : Nat → Int) (vi : Nat → Int) (sr : Nat → Int) (fr : Nat → Int) (to : Nat → Int) (x3 : Int) (Q : Int → (Int) → (Int) → (Int) → (Nat → Int) → (Nat → Int) → (Nat → Int) → (Nat → Int) → (Nat → Int) → Prop) : Prop := wp_X5_beginNow z sr fr to (fun z_10 sr_10 fr_10 to_10 => wp_X5_act_168 nvi low high z_10 vi sr_10 fr_10 to_10 x3 Q)
def wp_X5_act_111 (nvi : Int) (low : Int) (high : Int) (z : Nat → Int) (vi : Nat → Int) (sr : Nat → Int) (fr : Nat → Int) (to : Nat → Int) (x3 : Int) (Q : Int → (Int) → (Int) → (Int) → (Nat → Int) → (Nat → Int) → (Nat → Int) → (Nat → Int) → (Nat → Int) → Prop) : Prop := inR (z 482) ∧ (z 482 ≠ 0 → wp_X5_act_168 nvi low high z vi sr fr to x3 Q) ∧ (¬ (z 482 ≠ 0) → wp_X5_markedIn z 0 (fun r_8 => inR (100 * r_8) ∧ inR ((z 636) * (z 0)) ∧ (100 * r_8 > (z 636) * (z 0) → wp_X5_act_164 nvi low high z vi sr fr to x3 Q) ∧ (¬ (100 * r_8 > (z 636) * (z 0)) → wp_X5_depthIn nvi low high z vi 0 (fun r_9 nvi_9 low_9 high_9 vi_9 => inR r_9 ∧ inR (z 637) ∧ (r_9 ≤ z 637 → wp_X5_act_168 nvi_9 low_9 high_9 z vi_9 sr fr to x3 Q) ∧ (¬ (r_9 ≤ z 637) → wp_X5_act_164 nvi_9 low_9 high_9 z vi_9 sr fr to x3 Q)))))
def wp_X5_act_73 (sr : Nat → Int) (fr : Nat → Int) (to : Nat → Int) (Q : Int → (Int) → (Int) → (Int) → (Nat → Int) → (Nat → Int) → (Nat → Int) → (Nat → Int) → (Nat → Int) → Prop) (K_73 : (Int) → (Int) → (Int) → (Nat → Int) → (Nat → Int) → Int → Int → Prop) (nvi : Int) (low : Int) (high : Int) (z : Nat → Int) (vi : Nat → Int) (x3 : Int) (x4 : Int) : Prop := inR x4 ∧ inR (z 638) ∧ (x4 ≥ z 638 → wp_X5_act_111 nvi low high z vi sr fr to x3 Q) ∧ (¬ (x4 ≥ z 638) → inR (z 482) ∧ (z 482 ≠ 1 → wp_X5_act_111 nvi low high z vi sr fr to x3 Q) ∧ (¬ (z 482 ≠ 1) → wp_X5_makeStep nvi low high z vi (fun r_7 nvi_7 low_7 high_7 z_7 vi_7 => K_73 nvi_7 low_7 high_7 z_7 vi_7 (x3 + r_7) (x4 + 1))))
def wp_X5_act_41 (nvi : Int) (low : Int) (high : Int) (z : Nat → Int) (vi : Nat → Int) (sr : Nat → Int) (fr : Nat → Int) (to : Nat → Int) (x1 : Int) (x2 : Int) (x3 : Int) (x4 : Int) (Q : Int → (Int) → (Int) → (Int) → (Nat → Int) → (Nat → Int) → (Nat → Int) → (Nat → Int) → (Nat → Int) → Prop) : Prop := inR (z 482) ∧ (z 482 ≠ 1 → (∃ n, lq7 (wp_X5_act_73 sr fr to Q) n nvi low high z vi x3 0)) ∧ (¬ (z 482 ≠ 1) → wp_X5_isPresent z 0 x2 (fun r_5 => inR r_5 ∧ inR x4 ∧ (r_5 = x4 → (∃ n, lq7 (wp_X5_act_73 sr fr to Q) n nvi low high z vi x3 0)) ∧ (¬ (r_5 = x4) → wp_X5_queue z x1 x2 (fun z_6 => (∃ n, lq7 (wp_X5_act_73 sr fr to Q) n nvi low high z_6 vi x3 0)))))
def wp_X5_act (nvi : Int) (low : Int) (high : Int) (z : Nat → Int) (vi : Nat → Int) (sr : Nat → Int) (fr : Nat → Int) (to : Nat → Int) (x1 : Int) (x2 : Int) (Q : Int → (Int) → (Int) → (Int) → (Nat → Int) → (Nat → Int) → (Nat → Int) → (Nat → Int) → (Nat → Int) → Prop) : Prop := inR x1 ∧ (x1 = 2 → (∃ n, lq7 (wp_X5_act_73 sr fr to Q) n nvi low high z vi 0 0)) ∧ (¬ (x1 = 2) → wp_X5_isPresent z 0 x2 (fun r_1 => wp_X5_depthOf nvi low high z vi 0 x2 (fun r_2 nvi_2 low_2 high_2 vi_2 => inR x1 ∧ (x1 ≠ 0 → wp_X5_mark z 0 x2 (fun z_3 => wp_X5_act_41 nvi_2 low_2 high_2 z_3 vi_2 sr fr to x1 x2 r_2 r_1 Q)) ∧ (¬ (x1 ≠ 0) → wp_X5_put z 0 x2 (fun z_4 => wp_X5_act_41 nvi_2 low_2 high_2 z_4 vi_2 sr fr to x1 x2 r_2 r_1 Q)))))
theorem m_X5_act_7 : Cond.fieldLink RX5 7 "BackgroundRebuildModel" "z" "[I" ∈ wsX5_act := by decide +kernel
theorem i_X5_act_5 : ∀ w ∈ u_ws RX5 TX5 21, w ∈ wsX5_act := by decide +kernel
theorem ok_X5_act : yX5_act.cls = RX5 ∧ yX5_act.cls ≠ "java/lang/invoke/MethodHandle" ∧ yX5_act.cls ≠ "java/lang/invoke/VarHandle" ∧ (parseMethodDescriptor yX5_act.desc).map (fun d => d.parameters.length) = some 2 := by decide +kernel
set_option maxHeartbeats 4000000 in
set_option maxRecDepth 100000 in
theorem met_X5_act (l : Launch) (D : va_G) (t : Nat → ClassId) (hM : Nat) (zA : Nat) (spA : Nat) (svA : Nat) (soA : Nat) (ikA : Nat) (txA : Nat) (viA : Nat) (srA : Nat) (frA : Nat) (toA : Nat) (hoA : Nat) (keA : Nat) (nsv : Int) (len : Int) (thr : Int) (nvi : Int) (low : Int) (high : Int) (nto : Int) (spo : Int) (mos : Int) (z : Nat → Int) (sp : Nat → Int) (sv : Nat → Int) (so : Nat → Int) (ik : Nat → Int) (tx : Nat → Int) (vi : Nat → Int) (sr : Nat → Int) (fr : Nat → Int) (to : Nat → Int) (ho : Nat → Int) (ke : Nat → Int) (x1 : Int) (x2 : Int) (Q : Int → (Int) → (Int) → (Int) → (Nat → Int) → (Nat → Int) → (Nat → Int) → (Nat → Int) → (Nat → Int) → Prop) (hv : wp_X5_act nvi low high z vi sr fr to x1 x2 Q) : MI l D t yX5_act wsX5_act rm_X5_act [.ref hM, .int (iI x1), .int (iI x2)] [oB hM 5 [.ref zA, .ref spA, .ref svA, .int (iI nsv), .ref soA, .ref ikA, .ref txA, .int (iI len), .int (iI thr), .int (iI nvi), .ref viA, .int (iI low), .int (iI high), .ref srA, .ref frA, .ref toA, .ref hoA, .ref keA, .int (iI nto), .int (iI spo), .int (iI mos)], aI t zA 646 z, aI t spA 646 sp, aI t svA 3876 sv, aI t soA 1292 so, aZ t ikA 2 ik, aI t txA 60 tx, aI t viA 120 vi, aI t srA 120 sr, aI t frA 122 fr, aI t toA 122 to, aI t hoA 31 ho, aI t keA 31 ke] (W1_X5_act t hM zA spA svA soA ikA txA viA srA frA toA hoA keA nsv len thr nto spo mos sp sv so ik tx ho ke) (po_X5_act Q) 0 0 := by
  refine M_ofi (cc := cX5_act) (nL := 5) (by decide) rfl (Nat.le_of_ble_eq_true rfl) ?_
  intro p e s m args below meth c A hc hr
  have C_208 : ∀ (nvi : Int) (low : Int) (high : Int) (z : Nat → Int) (vi : Nat → Int) (sr : Nat → Int) (fr : Nat → Int) (to : Nat → Int) (x3 : Int) (s0 : Int) (s1 : Int), wp_X5_act_208 nvi low high z vi sr fr to x3 s0 s1 Q → V p l e rm_X5_act s m args below meth c D A 5 0 0 (MQ below (QI D A (W1_X5_act t hM zA spA svA soA ikA txA viA srA frA toA hoA keA nsv len thr nto spo mos sp sv so ik tx ho ke) (po_X5_act Q)) args s 0 0 A) 208 [(0, .ref hM), (3, .int (iI x3))] [.int (iI s0), .int (iI s1), .ref zA] [oB hM 5 [.ref zA, .ref spA, .ref svA, .int (iI nsv), .ref soA, .ref ikA, .ref txA, .int (iI len), .int (iI thr), .int (iI nvi), .ref viA, .int (iI low), .int (iI high), .ref srA, .ref frA, .ref toA, .ref hoA, .ref keA, .int (iI nto), .int (iI spo), .int (iI mos)], aI t zA 646 z, aI t spA 646 sp, aI t svA 3876 sv, aI t soA 1292 so, aZ t ikA 2 ik, aI t txA 60 tx, aI t viA 120 vi, aI t srA 120 sr, aI t frA 122 fr, aI t toA 122 to, aI t hoA 31 ho, aI t keA 31 ke] := by
    intro nvi low high z vi sr fr to x3 s0 s1 hv
    unfold wp_X5_act_208 at hv
    refine V_iast hc 1 rfl (by decide) hv dX5_act_208 [oB hM 5 [.ref zA, .ref spA, .ref svA, .int (iI nsv), .ref soA, .ref ikA, .ref txA, .int (iI len), .int (iI thr), .int (iI nvi), .ref viA, .int (iI low), .int (iI high), .ref srA, .ref frA, .ref toA, .ref hoA, .ref keA, .int (iI nto), .int (iI spo), .int (iI mos)], aI t zA 646 (uI z (s1.toNat) s0), aI t spA 646 sp, aI t svA 3876 sv, aI t soA 1292 so, aZ t ikA 2 ik, aI t txA 60 tx, aI t viA 120 vi, aI t srA 120 sr, aI t frA 122 fr, aI t toA 122 to, aI t hoA 31 ho, aI t keA 31 ke] rfl (fun hv => ?_)
    refine V_aload_n hc dX5_act_209 0 rfl ?_
    refine V_get (C := RX5) (T := TX5) (N := 21) hc i_X5_act_5 0 rfl rfl 0 (by decide) m_X5_act_7 rfl dX5_act_210 ?_
    refine V_sipush hc dX5_act_213 (by decide) ?_
    refine V_dup2 hc dX5_act_216 rfl rfl ?_
    refine V_iald hc 1 rfl (by decide) ⟨by decide, hv⟩ dX5_act_217 (fun hv => ?_)
    refine V_iload_n hc dX5_act_218 1 rfl ?_
    refine V_iadd hc dX5_act_219 ?_
    refine V_iast hc 1 rfl (by decide) ⟨by decide, hv⟩ dX5_act_220 [oB hM 5 [.ref zA, .ref spA, .ref svA, .int (iI nsv), .ref soA, .ref ikA, .ref txA, .int (iI len), .int (iI thr), .int (iI nvi), .ref viA, .int (iI low), .int (iI high), .ref srA, .ref frA, .ref toA, .ref hoA, .ref keA, .int (iI nto), .int (iI spo), .int (iI mos)], aI t zA 646 (uI (uI z (s1.toNat) s0) 641 (((uI z (s1.toNat) s0) 641) + x3)), aI t spA 646 sp, aI t svA 3876 sv, aI t soA 1292 so, aZ t ikA 2 ik, aI t txA 60 tx, aI t viA 120 vi, aI t srA 120 sr, aI t frA 122 fr, aI t toA 122 to, aI t hoA 31 ho, aI t keA 31 ke] rfl (fun hv => ?_)
    refine V_aload_n hc dX5_act_221 0 rfl ?_
    refine V_get (C := RX5) (T := TX5) (N := 21) hc i_X5_act_5 0 rfl rfl 0 (by decide) m_X5_act_7 rfl dX5_act_222 ?_
    refine V_sipush hc dX5_act_225 (by decide) ?_
    refine V_dup2 hc dX5_act_228 rfl rfl ?_
    refine V_iald hc 1 rfl (by decide) ⟨by decide, hv⟩ dX5_act_229 (fun hv => ?_)
    refine V_iconst hc dX5_act_230 ?_
    refine V_iadd hc dX5_act_231 ?_
    refine V_iast hc 1 rfl (by decide) ⟨by decide, hv⟩ dX5_act_232 [oB hM 5 [.ref zA, .ref spA, .ref svA, .int (iI nsv), .ref soA, .ref ikA, .ref txA, .int (iI len), .int (iI thr), .int (iI nvi), .ref viA, .int (iI low), .int (iI high), .ref srA, .ref frA, .ref toA, .ref hoA, .ref keA, .int (iI nto), .int (iI spo), .int (iI mos)], aI t zA 646 (uI (uI (uI z (s1.toNat) s0) 641 (((uI z (s1.toNat) s0) 641) + x3)) 642 (((uI (uI z (s1.toNat) s0) 641 (((uI z (s1.toNat) s0) 641) + x3)) 642) + 1)), aI t spA 646 sp, aI t svA 3876 sv, aI t soA 1292 so, aZ t ikA 2 ik, aI t txA 60 tx, aI t viA 120 vi, aI t srA 120 sr, aI t frA 122 fr, aI t toA 122 to, aI t hoA 31 ho, aI t keA 31 ke] rfl (fun hv => ?_)
    refine V_iload_n hc dX5_act_233 1 rfl ?_
    exact V_iret hc hr (nvi, low, high, uI (uI (uI z (s1.toNat) s0) 641 (((uI z (s1.toNat) s0) 641) + x3)) 642 (((uI (uI z (s1.toNat) s0) 641 (((uI z (s1.toNat) s0) 641) + x3)) 642) + 1), vi, sr, fr, to) hv rfl dX5_act_234
  have C_168 : ∀ (nvi : Int) (low : Int) (high : Int) (z : Nat → Int) (vi : Nat → Int) (sr : Nat → Int) (fr : Nat → Int) (to : Nat → Int) (x3 : Int), wp_X5_act_168 nvi low high z vi sr fr to x3 Q → V p l e rm_X5_act s m args below meth c D A 5 0 0 (MQ below (QI D A (W1_X5_act t hM zA spA svA soA ikA txA viA srA frA toA hoA keA nsv len thr nto spo mos sp sv so ik tx ho ke) (po_X5_act Q)) args s 0 0 A) 168 [(0, .ref hM), (3, .int (iI x3))] [] [oB hM 5 [.ref zA, .ref spA, .ref svA, .int (iI nsv), .ref soA, .ref ikA, .ref txA, .int (iI len), .int (iI thr), .int (iI nvi), .ref viA, .int (iI low), .int (iI high), .ref srA, .ref frA, .ref toA, .ref hoA, .ref keA, .int (iI nto), .int (iI spo), .int (iI mos)], aI t zA 646 z, aI t spA 646 sp, aI t svA 3876 sv, aI t soA 1292 so, aZ t ikA 2 ik, aI t txA 60 tx, aI t viA 120 vi, aI t srA 120 sr, aI t frA 122 fr, aI t toA 122 to, aI t hoA 31 ho, aI t keA 31 ke] := by
    intro nvi low high z vi sr fr to x3 hv
    unfold wp_X5_act_168 at hv
    refine V_aload_n hc dX5_act_168 0 rfl ?_
    refine V_get (C := RX5) (T := TX5) (N := 21) hc i_X5_act_5 0 rfl rfl 0 (by decide) m_X5_act_7 rfl dX5_act_169 ?_
    refine V_sipush hc dX5_act_172 (by decide) ?_
    refine V_iload_n hc dX5_act_175 1 rfl ?_
    refine V_iast hc 1 rfl (by decide) ⟨by decide, hv⟩ dX5_act_176 [oB hM 5 [.ref zA, .ref spA, .ref svA, .int (iI nsv), .ref soA, .ref ikA, .ref txA, .int (iI len), .int (iI thr), .int (iI nvi), .ref viA, .int (iI low), .int (iI high), .ref srA, .ref frA, .ref toA, .ref hoA, .ref keA, .int (iI nto), .int (iI spo), .int (iI mos)], aI t zA 646 (uI z 639 x3), aI t spA 646 sp, aI t svA 3876 sv, aI t soA 1292 so, aZ t ikA 2 ik, aI t txA 60 tx, aI t viA 120 vi, aI t srA 120 sr, aI t frA 122 fr, aI t toA 122 to, aI t hoA 31 ho, aI t keA 31 ke] rfl (fun hv => ?_)
    refine V_aload_n hc dX5_act_177 0 rfl ?_
    refine V_get (C := RX5) (T := TX5) (N := 21) hc i_X5_act_5 0 rfl rfl 0 (by decide) m_X5_act_7 rfl dX5_act_178 ?_
    refine V_sipush hc dX5_act_181 (by decide) ?_
    refine V_iload_n hc dX5_act_184 1 rfl ?_
    refine V_aload_n hc dX5_act_185 0 rfl ?_
    refine V_get (C := RX5) (T := TX5) (N := 21) hc i_X5_act_5 0 rfl rfl 0 (by decide) m_X5_act_7 rfl dX5_act_186 ?_
    refine V_sipush hc dX5_act_189 (by decide) ?_
    refine V_iald hc 1 rfl (by decide) ⟨by decide, hv⟩ dX5_act_192 (fun hv => ?_)
    refine V_icmp_le (tgt := 200) hc dX5_act_193 (by decide) hv (fun hv => ?_) (fun hv => ?_)
    · refine V_aload_n hc dX5_act_200 0 rfl ?_
      refine V_get (C := RX5) (T := TX5) (N := 21) hc i_X5_act_5 0 rfl rfl 0 (by decide) m_X5_act_7 rfl dX5_act_201 ?_
      refine V_sipush hc dX5_act_204 (by decide) ?_
      refine V_iald hc 1 rfl (by decide) ⟨by decide, hv⟩ dX5_act_207 (fun hv => ?_)
      exact C_208 nvi low high (uI z 639 x3) vi sr fr to x3 ((uI z 639 x3) 640) 640 hv
    · refine V_iload_n hc dX5_act_196 1 rfl ?_
      refine V_goto (tgt := 208) hc dX5_act_197 (by decide) ?_
      exact C_208 nvi low high (uI z 639 x3) vi sr fr to x3 x3 640 hv
  have C_164 : ∀ (nvi : Int) (low : Int) (high : Int) (z : Nat → Int) (vi : Nat → Int) (sr : Nat → Int) (fr : Nat → Int) (to : Nat → Int) (x3 : Int), wp_X5_act_164 nvi low high z vi sr fr to x3 Q → V p l e rm_X5_act s m args below meth c D A 5 0 0 (MQ below (QI D A (W1_X5_act t hM zA spA svA soA ikA txA viA srA frA toA hoA keA nsv len thr nto spo mos sp sv so ik tx ho ke) (po_X5_act Q)) args s 0 0 A) 164 [(0, .ref hM), (3, .int (iI x3))] [] [oB hM 5 [.ref zA, .ref spA, .ref svA, .int (iI nsv), .ref soA, .ref ikA, .ref txA, .int (iI len), .int (iI thr), .int (iI nvi), .ref viA, .int (iI low), .int (iI high), .ref srA, .ref frA, .ref toA, .ref hoA, .ref keA, .int (iI nto), .int (iI spo), .int (iI mos)], aI t zA 646 z, aI t spA 646 sp, aI t svA 3876 sv, aI t soA 1292 so, aZ t ikA 2 ik, aI t txA 60 tx, aI t viA 120 vi, aI t srA 120 sr, aI t frA 122 fr, aI t toA 122 to, aI t hoA 31 ho, aI t keA 31 ke] := by
    intro nvi low high z vi sr fr to x3 hv
    unfold wp_X5_act_164 at hv
    refine V_aload_n hc dX5_act_164 0 rfl ?_
    refine V_callVV (As := []) hc (wc := [oB hM 5 [.ref zA, .ref spA, .ref svA, .int (iI nsv), .ref soA, .ref ikA, .ref txA, .int (iI len), .int (iI thr), .int (iI nvi), .ref viA, .int (iI low), .int (iI high), .ref srA, .ref frA, .ref toA, .ref hoA, .ref keA, .int (iI nto), .int (iI spo), .int (iI mos)], aI t zA 646 z, aI t spA 646 sp, aI t svA 3876 sv, aI t soA 1292 so, aZ t ikA 2 ik, aI t txA 60 tx, aI t viA 120 vi, aI t srA 120 sr, aI t frA 122 fr, aI t toA 122 to, aI t hoA 31 ho, aI t keA 31 ke]) (wr := []) (pmI [0, 1, 2, 3, 4, 5, 6, 7, 8, 9, 10, 11, 12] 13 rfl (by decide +kernel) rfl) rfl rfl (met_X5_beginNow l D t hM zA spA svA soA ikA txA viA srA frA toA hoA keA nsv len thr nvi low high nto spo mos z sp sv so ik tx vi sr fr to ho ke _ hv) rfl gX5_act_X5_beginNow rfl ⟨rfl, rfl⟩ ok_X5_beginNow (by decide) (Nat.le_of_ble_eq_true rfl) dX5_act_165 (by decide) (fun u9 hv => ?_)
    obtain ⟨z_10, sr_10, fr_10, to_10⟩ := u9
    try dsimp only at hv
    refine V_perm (ws1 := [oB hM 5 [.ref zA, .ref spA, .ref svA, .int (iI nsv), .ref soA, .ref ikA, .ref txA, .int (iI len), .int (iI thr), .int (iI nvi), .ref viA, .int (iI low), .int (iI high), .ref srA, .ref frA, .ref toA, .ref hoA, .ref keA, .int (iI nto), .int (iI spo), .int (iI mos)], aI t zA 646 z_10, aI t spA 646 sp, aI t svA 3876 sv, aI t soA 1292 so, aZ t ikA 2 ik, aI t txA 60 tx, aI t viA 120 vi, aI t srA 120 sr_10, aI t frA 122 fr_10, aI t toA 122 to_10, aI t hoA 31 ho, aI t keA 31 ke]) (pmI [0, 1, 2, 3, 4, 5, 6, 7, 8, 9, 10, 11, 12] 13 rfl (by decide +kernel) rfl) ?_
    exact C_168 nvi low high z_10 vi sr_10 fr_10 to_10 x3 hv
  have C_111 : ∀ (nvi : Int) (low : Int) (high : Int) (z : Nat → Int) (vi : Nat → Int) (sr : Nat → Int) (fr : Nat → Int) (to : Nat → Int) (x3 : Int), wp_X5_act_111 nvi low high z vi sr fr to x3 Q → V p l e rm_X5_act s m args below meth c D A 5 0 0 (MQ below (QI D A (W1_X5_act t hM zA spA svA soA ikA txA viA srA frA toA hoA keA nsv len thr nto spo mos sp sv so ik tx ho ke) (po_X5_act Q)) args s 0 0 A) 111 [(0, .ref hM), (3, .int (iI x3))] [] [oB hM 5 [.ref zA, .ref spA, .ref svA, .int (iI nsv), .ref soA, .ref ikA, .ref txA, .int (iI len), .int (iI thr), .int (iI nvi), .ref viA, .int (iI low), .int (iI high), .ref srA, .ref frA, .ref toA, .ref hoA, .ref keA, .int (iI nto), .int (iI spo), .int (iI mos)], aI t zA 646 z, aI t spA 646 sp, aI t svA 3876 sv, aI t soA 1292 so, aZ t ikA 2 ik, aI t txA 60 tx, aI t viA 120 vi, aI t srA 120 sr, aI t frA 122 fr, aI t toA 122 to, aI t hoA 31 ho, aI t keA 31 ke] := by
    intro nvi low high z vi sr fr to x3 hv
    unfold wp_X5_act_111 at hv
    refine V_aload_n hc dX5_act_111 0 rfl ?_
    refine V_get (C := RX5) (T := TX5) (N := 21) hc i_X5_act_5 0 rfl rfl 0 (by decide) m_X5_act_7 rfl dX5_act_112 ?_
    refine V_sipush hc dX5_act_115 (by decide) ?_
    refine V_iald hc 1 rfl (by decide) ⟨by decide, hv⟩ dX5_act_118 (fun hv => ?_)
    refine V_if_ne (tgt := 168) hc dX5_act_119 (by decide) hv (fun hv => ?_) (fun hv => ?_)
    · exact C_168 nvi low high z vi sr fr to x3 hv
    · refine V_bipush hc dX5_act_122 (by decide) ?_
      refine V_aload_n hc dX5_act_124 0 rfl ?_
      refine V_iconst hc dX5_act_125 ?_
      refine V_callVI (As := [.int (iI 0)]) hc (wc := [oB hM 5 [.ref zA, .ref spA, .ref svA, .int (iI nsv), .ref soA, .ref ikA, .ref txA, .int (iI len), .int (iI thr), .int (iI nvi), .ref viA, .int (iI low), .int (iI high), .ref srA, .ref frA, .ref toA, .ref hoA, .ref keA, .int (iI nto), .int (iI spo), .int (iI mos)], aI t zA 646 z, aI t spA 646 sp, aI t svA 3876 sv, aI t soA 1292 so, aZ t ikA 2 ik, aI t txA 60 tx, aI t viA 120 vi, aI t srA 120 sr, aI t frA 122 fr, aI t toA 122 to, aI t hoA 31 ho, aI t keA 31 ke]) (wr := []) (pmI [0, 1, 2, 3, 4, 5, 6, 7, 8, 9, 10, 11, 12] 13 rfl (by decide +kernel) rfl) rfl rfl (met_X5_markedIn l D t hM zA spA svA soA ikA txA viA srA frA toA hoA keA nsv len thr nvi low high nto spo mos z sp sv so ik tx vi sr fr to ho ke 0 _ hv) rfl gX5_act_X5_markedIn rfl ⟨rfl, rfl⟩ ok_X5_markedIn (by decide) (Nat.le_of_ble_eq_true rfl) dX5_act_126 (by decide) (fun r_8 _ hv => ?_)
      try dsimp only at hv
      refine V_perm (ws1 := [oB hM 5 [.ref zA, .ref spA, .ref svA, .int (iI nsv), .ref soA, .ref ikA, .ref txA, .int (iI len), .int (iI thr), .int (iI nvi), .ref viA, .int (iI low), .int (iI high), .ref srA, .ref frA, .ref toA, .ref hoA, .ref keA, .int (iI nto), .int (iI spo), .int (iI mos)], aI t zA 646 z, aI t spA 646 sp, aI t svA 3876 sv, aI t soA 1292 so, aZ t ikA 2 ik, aI t txA 60 tx, aI t viA 120 vi, aI t srA 120 sr, aI t frA 122 fr, aI t toA 122 to, aI t hoA 31 ho, aI t keA 31 ke]) (pmI [0, 1, 2, 3, 4, 5, 6, 7, 8, 9, 10, 11, 12] 13 rfl (by decide +kernel) rfl) ?_
      refine V_imul hc dX5_act_129 ?_
      refine V_aload_n hc dX5_act_130 0 rfl ?_
      refine V_get (C := RX5) (T := TX5) (N := 21) hc i_X5_act_5 0 rfl rfl 0 (by decide) m_X5_act_7 rfl dX5_act_131 ?_
      refine V_sipush hc dX5_act_134 (by decide) ?_
      refine V_iald hc 1 rfl (by decide) ⟨by decide, hv⟩ dX5_act_137 (fun hv => ?_)
      refine V_aload_n hc dX5_act_138 0 rfl ?_
      refine V_get (C := RX5) (T := TX5) (N := 21) hc i_X5_act_5 0 rfl rfl 0 (by decide) m_X5_act_7 rfl dX5_act_139 ?_
      refine V_iconst hc dX5_act_142 ?_
      refine V_iald hc 1 rfl (by decide) ⟨by decide, hv⟩ dX5_act_143 (fun hv => ?_)
      refine V_imul hc dX5_act_144 ?_
      refine V_icmp_gt (tgt := 164) hc dX5_act_145 (by decide) hv (fun hv => ?_) (fun hv => ?_)
      · exact C_164 nvi low high z vi sr fr to x3 hv
      · refine V_aload_n hc dX5_act_148 0 rfl ?_
        refine V_iconst hc dX5_act_149 ?_
        refine V_callVI (As := [.int (iI 0)]) hc (wc := [oB hM 5 [.ref zA, .ref spA, .ref svA, .int (iI nsv), .ref soA, .ref ikA, .ref txA, .int (iI len), .int (iI thr), .int (iI nvi), .ref viA, .int (iI low), .int (iI high), .ref srA, .ref frA, .ref toA, .ref hoA, .ref keA, .int (iI nto), .int (iI spo), .int (iI mos)], aI t zA 646 z, aI t spA 646 sp, aI t svA 3876 sv, aI t soA 1292 so, aZ t ikA 2 ik, aI t txA 60 tx, aI t viA 120 vi, aI t srA 120 sr, aI t frA 122 fr, aI t toA 122 to, aI t hoA 31 ho, aI t keA 31 ke]) (wr := []) (pmI [0, 1, 2, 3, 4, 5, 6, 7, 8, 9, 10, 11, 12] 13 rfl (by decide +kernel) rfl) rfl rfl (met_X5_depthIn l D t hM zA spA svA soA ikA txA viA srA frA toA hoA keA nsv len thr nvi low high nto spo mos z sp sv so ik tx vi sr fr to ho ke 0 _ hv) rfl gX5_act_X5_depthIn rfl ⟨rfl, rfl⟩ ok_X5_depthIn (by decide) (Nat.le_of_ble_eq_true rfl) dX5_act_150 (by decide) (fun r_9 u9 hv => ?_)
        obtain ⟨nvi_9, low_9, high_9, vi_9⟩ := u9
        try dsimp only at hv
        refine V_perm (ws1 := [oB hM 5 [.ref zA, .ref spA, .ref svA, .int (iI nsv), .ref soA, .ref ikA, .ref txA, .int (iI len), .int (iI thr), .int (iI nvi_9), .ref viA, .int (iI low_9), .int (iI high_9), .ref srA, .ref frA, .ref toA, .ref hoA, .ref keA, .int (iI nto), .int (iI spo), .int (iI mos)], aI t zA 646 z, aI t spA 646 sp, aI t svA 3876 sv, aI t soA 1292 so, aZ t ikA 2 ik, aI t txA 60 tx, aI t viA 120 vi_9, aI t srA 120 sr, aI t frA 122 fr, aI t toA 122 to, aI t hoA 31 ho, aI t keA 31 ke]) (pmI [0, 1, 2, 3, 4, 5, 6, 7, 8, 9, 10, 11, 12] 13 rfl (by decide +kernel) rfl) ?_
        refine V_aload_n hc dX5_act_153 0 rfl ?_
        refine V_get (C := RX5) (T := TX5) (N := 21) hc i_X5_act_5 0 rfl rfl 0 (by decide) m_X5_act_7 rfl dX5_act_154 ?_
        refine V_sipush hc dX5_act_157 (by decide) ?_
        refine V_iald hc 1 rfl (by decide) ⟨by decide, hv⟩ dX5_act_160 (fun hv => ?_)
        refine V_icmp_le (tgt := 168) hc dX5_act_161 (by decide) hv (fun hv => ?_) (fun hv => ?_)
        · exact C_168 nvi_9 low_9 high_9 z vi_9 sr fr to x3 hv
        · exact C_164 nvi_9 low_9 high_9 z vi_9 sr fr to x3 hv
  have L_73 : ∀ (sr : Nat → Int) (fr : Nat → Int) (to : Nat → Int) (n9 : Nat) (nvi : Int) (low : Int) (high : Int) (z : Nat → Int) (vi : Nat → Int) (x3 : Int) (x4 : Int), lq7 (wp_X5_act_73 sr fr to Q) n9 nvi low high z vi x3 x4 → V p l e rm_X5_act s m args below meth c D A 5 0 0 (MQ below (QI D A (W1_X5_act t hM zA spA svA soA ikA txA viA srA frA toA hoA keA nsv len thr nto spo mos sp sv so ik tx ho ke) (po_X5_act Q)) args s 0 0 A) 73 [(0, .ref hM), (3, .int (iI x3)), (4, .int (iI x4))] [] [oB hM 5 [.ref zA, .ref spA, .ref svA, .int (iI nsv), .ref soA, .ref ikA, .ref txA, .int (iI len), .int (iI thr), .int (iI nvi), .ref viA, .int (iI low), .int (iI high), .ref srA, .ref frA, .ref toA, .ref hoA, .ref keA, .int (iI nto), .int (iI spo), .int (iI mos)], aI t zA 646 z, aI t spA 646 sp, aI t svA 3876 sv, aI t soA 1292 so, aZ t ikA 2 ik, aI t txA 60 tx, aI t viA 120 vi, aI t srA 120 sr, aI t frA 122 fr, aI t toA 122 to, aI t hoA 31 ho, aI t keA 31 ke] := by
    intro sr fr to n9
    induction n9 with
    | zero =>
      intro nvi low high z vi x3 x4 hv
      exact hv.elim
    | succ n9 ih =>
      intro nvi low high z vi x3 x4 hv
      have hv : wp_X5_act_73 sr fr to Q (lq7 (wp_X5_act_73 sr fr to Q) n9) nvi low high z vi x3 x4 := hv
      generalize lq7 (wp_X5_act_73 sr fr to Q) n9 = K_73 at hv ih
      have hK_73 := ih
      unfold wp_X5_act_73 at hv
      refine V_iload hc dX5_act_73 2 rfl ?_
      refine V_aload_n hc dX5_act_75 0 rfl ?_
      refine V_get (C := RX5) (T := TX5) (N := 21) hc i_X5_act_5 0 rfl rfl 0 (by decide) m_X5_act_7 rfl dX5_act_76 ?_
      refine V_sipush hc dX5_act_79 (by decide) ?_
      refine V_iald hc 1 rfl (by decide) ⟨by decide, hv⟩ dX5_act_82 (fun hv => ?_)
      refine V_icmp_ge (tgt := 111) hc dX5_act_83 (by decide) hv (fun hv => ?_) (fun hv => ?_)
      · refine V_lv [0, 1] [(0, .ref hM), (3, .int (iI x3))] rfl ?_
        exact C_111 nvi low high z vi sr fr to x3 hv
      · refine V_aload_n hc dX5_act_86 0 rfl ?_
        refine V_get (C := RX5) (T := TX5) (N := 21) hc i_X5_act_5 0 rfl rfl 0 (by decide) m_X5_act_7 rfl dX5_act_87 ?_
        refine V_sipush hc dX5_act_90 (by decide) ?_
        refine V_iald hc 1 rfl (by decide) ⟨by decide, hv⟩ dX5_act_93 (fun hv => ?_)
        refine V_iconst hc dX5_act_94 ?_
        refine V_icmp_ne (tgt := 111) hc dX5_act_95 (by decide) ⟨hv.1, by decide, hv.2⟩ (fun hv => ?_) (fun hv => ?_)
        · refine V_lv [0, 1] [(0, .ref hM), (3, .int (iI x3))] rfl ?_
          exact C_111 nvi low high z vi sr fr to x3 hv
        · refine V_iload_n hc dX5_act_98 1 rfl ?_
          refine V_aload_n hc dX5_act_99 0 rfl ?_
          refine V_callVI (As := []) hc (wc := [oB hM 5 [.ref zA, .ref spA, .ref svA, .int (iI nsv), .ref soA, .ref ikA, .ref txA, .int (iI len), .int (iI thr), .int (iI nvi), .ref viA, .int (iI low), .int (iI high), .ref srA, .ref frA, .ref toA, .ref hoA, .ref keA, .int (iI nto), .int (iI spo), .int (iI mos)], aI t zA 646 z, aI t spA 646 sp, aI t svA 3876 sv, aI t soA 1292 so, aZ t ikA 2 ik, aI t txA 60 tx, aI t viA 120 vi, aI t srA 120 sr, aI t frA 122 fr, aI t toA 122 to, aI t hoA 31 ho, aI t keA 31 ke]) (wr := []) (pmI [0, 1, 2, 3, 4, 5, 6, 7, 8, 9, 10, 11, 12] 13 rfl (by decide +kernel) rfl) rfl rfl (met_X5_makeStep l D t hM zA spA svA soA ikA txA viA srA frA toA hoA keA nsv len thr nvi low high nto spo mos z sp sv so ik tx vi sr fr to ho ke _ hv) rfl gX5_act_X5_makeStep rfl ⟨rfl, rfl⟩ ok_X5_makeStep (by decide) (Nat.le_of_ble_eq_true rfl) dX5_act_100 (by decide) (fun r_7 u9 hv => ?_)
          obtain ⟨nvi_7, low_7, high_7, z_7, vi_7⟩ := u9
          try dsimp only at hv
          refine V_perm (ws1 := [oB hM 5 [.ref zA, .ref spA, .ref svA, .int (iI nsv), .ref soA, .ref ikA, .ref txA, .int (iI len), .int (iI thr), .int (iI nvi_7), .ref viA, .int (iI low_7), .int (iI high_7), .ref srA, .ref frA, .ref toA, .ref hoA, .ref keA, .int (iI nto), .int (iI spo), .int (iI mos)], aI t zA 646 z_7, aI t spA 646 sp, aI t svA 3876 sv, aI t soA 1292 so, aZ t ikA 2 ik, aI t txA 60 tx, aI t viA 120 vi_7, aI t srA 120 sr, aI t frA 122 fr, aI t toA 122 to, aI t hoA 31 ho, aI t keA 31 ke]) (pmI [0, 1, 2, 3, 4, 5, 6, 7, 8, 9, 10, 11, 12] 13 rfl (by decide +kernel) rfl) ?_
          refine V_iadd hc dX5_act_103 ?_
          refine V_istore_n hc dX5_act_104 [(3, .int (iI (x3 + r_7))), (0, .ref hM), (4, .int (iI x4))] (by decide) rfl ?_
          refine V_iinc hc dX5_act_105 2 rfl [(4, .int (iI (x4 + 1))), (3, .int (iI (x3 + r_7))), (0, .ref hM)] (by decide) rfl ?_
          refine V_goto (tgt := 73) hc dX5_act_108 (by decide) ?_
          refine V_lv [2, 1, 0] [(0, .ref hM), (3, .int (iI (x3 + r_7))), (4, .int (iI (x4 + 1)))] rfl ?_
          exact hK_73 nvi_7 low_7 high_7 z_7 vi_7 (x3 + r_7) (x4 + 1) hv
  have C_41 : ∀ (nvi : Int) (low : Int) (high : Int) (z : Nat → Int) (vi : Nat → Int) (sr : Nat → Int) (fr : Nat → Int) (to : Nat → Int) (x1 : Int) (x2 : Int) (x3 : Int) (x4 : Int), wp_X5_act_41 nvi low high z vi sr fr to x1 x2 x3 x4 Q → V p l e rm_X5_act s m args below meth c D A 5 0 0 (MQ below (QI D A (W1_X5_act t hM zA spA svA soA ikA txA viA srA frA toA hoA keA nsv len thr nto spo mos sp sv so ik tx ho ke) (po_X5_act Q)) args s 0 0 A) 41 [(0, .ref hM), (1, .int (iI x1)), (2, .int (iI x2)), (3, .int (iI x3)), (4, .int (iI x4))] [] [oB hM 5 [.ref zA, .ref spA, .ref svA, .int (iI nsv), .ref soA, .ref ikA, .ref txA, .int (iI len), .int (iI thr), .int (iI nvi), .ref viA, .int (iI low), .int (iI high), .ref srA, .ref frA, .ref toA, .ref hoA, .ref keA, .int (iI nto), .int (iI spo), .int (iI mos)], aI t zA 646 z, aI t spA 646 sp, aI t svA 3876 sv, aI t soA 1292 so, aZ t ikA 2 ik, aI t txA 60 tx, aI t viA 120 vi, aI t srA 120 sr, aI t frA 122 fr, aI t toA 122 to, aI t hoA 31 ho, aI t keA 31 ke] := by
    intro nvi low high z vi sr fr to x1 x2 x3 x4 hv
    unfold wp_X5_act_41 at hv
    refine V_aload_n hc dX5_act_41 0 rfl ?_
    refine V_get (C := RX5) (T := TX5) (N := 21) hc i_X5_act_5 0 rfl rfl 0 (by decide) m_X5_act_7 rfl dX5_act_42 ?_
    refine V_sipush hc dX5_act_45 (by decide) ?_
    refine V_iald hc 1 rfl (by decide) ⟨by decide, hv⟩ dX5_act_48 (fun hv => ?_)
    refine V_iconst hc dX5_act_49 ?_
    refine V_icmp_ne (tgt := 70) hc dX5_act_50 (by decide) ⟨hv.1, by decide, hv.2⟩ (fun hv => ?_) (fun hv => ?_)
    · refine V_iconst hc dX5_act_70 ?_
      refine V_istore hc dX5_act_71 [(4, .int (iI 0)), (0, .ref hM), (1, .int (iI x1)), (2, .int (iI x2)), (3, .int (iI x3))] (by decide) rfl ?_
      refine V_lv [1, 4, 0] [(0, .ref hM), (3, .int (iI x3)), (4, .int (iI 0))] rfl ?_
      obtain ⟨n9, hv⟩ := hv
      exact L_73 sr fr to n9 nvi low high z vi x3 0 hv
    · refine V_aload_n hc dX5_act_53 0 rfl ?_
      refine V_iconst hc dX5_act_54 ?_
      refine V_iload_n hc dX5_act_55 2 rfl ?_
      refine V_callVI (As := [.int (iI 0), .int (iI x2)]) hc (wc := [oB hM 5 [.ref zA, .ref spA, .ref svA, .int (iI nsv), .ref soA, .ref ikA, .ref txA, .int (iI len), .int (iI thr), .int (iI nvi), .ref viA, .int (iI low), .int (iI high), .ref srA, .ref frA, .ref toA, .ref hoA, .ref keA, .int (iI nto), .int (iI spo), .int (iI mos)], aI t zA 646 z, aI t spA 646 sp, aI t svA 3876 sv, aI t soA 1292 so, aZ t ikA 2 ik, aI t txA 60 tx, aI t viA 120 vi, aI t srA 120 sr, aI t frA 122 fr, aI t toA 122 to, aI t hoA 31 ho, aI t keA 31 ke]) (wr := []) (pmI [0, 1, 2, 3, 4, 5, 6, 7, 8, 9, 10, 11, 12] 13 rfl (by decide +kernel) rfl) rfl rfl (met_X5_isPresent l D t hM zA spA svA soA ikA txA viA srA frA toA hoA keA nsv len thr nvi low high nto spo mos z sp sv so ik tx vi sr fr to ho ke 0 x2 _ hv) rfl gX5_act_X5_isPresent rfl ⟨rfl, rfl⟩ ok_X5_isPresent (by decide) (Nat.le_of_ble_eq_true rfl) dX5_act_56 (by decide) (fun r_5 _ hv => ?_)
      try dsimp only at hv
      refine V_perm (ws1 := [oB hM 5 [.ref zA, .ref spA, .ref svA, .int (iI nsv), .ref soA, .ref ikA, .ref txA, .int (iI len), .int (iI thr), .int (iI nvi), .ref viA, .int (iI low), .int (iI high), .ref srA, .ref frA, .ref toA, .ref hoA, .ref keA, .int (iI nto), .int (iI spo), .int (iI mos)], aI t zA 646 z, aI t spA 646 sp, aI t svA 3876 sv, aI t soA 1292 so, aZ t ikA 2 ik, aI t txA 60 tx, aI t viA 120 vi, aI t srA 120 sr, aI t frA 122 fr, aI t toA 122 to, aI t hoA 31 ho, aI t keA 31 ke]) (pmI [0, 1, 2, 3, 4, 5, 6, 7, 8, 9, 10, 11, 12] 13 rfl (by decide +kernel) rfl) ?_
      refine V_iload hc dX5_act_59 4 rfl ?_
      refine V_icmp_eq (tgt := 70) hc dX5_act_61 (by decide) hv (fun hv => ?_) (fun hv => ?_)
      · refine V_iconst hc dX5_act_70 ?_
        refine V_istore hc dX5_act_71 [(4, .int (iI 0)), (0, .ref hM), (1, .int (iI x1)), (2, .int (iI x2)), (3, .int (iI x3))] (by decide) rfl ?_
        refine V_lv [1, 4, 0] [(0, .ref hM), (3, .int (iI x3)), (4, .int (iI 0))] rfl ?_
        obtain ⟨n9, hv⟩ := hv
        exact L_73 sr fr to n9 nvi low high z vi x3 0 hv
      · refine V_aload_n hc dX5_act_64 0 rfl ?_
        refine V_iload_n hc dX5_act_65 1 rfl ?_
        refine V_iload_n hc dX5_act_66 2 rfl ?_
        refine V_callVV (As := [.int (iI x1), .int (iI x2)]) hc (wc := [oB hM 5 [.ref zA, .ref spA, .ref svA, .int (iI nsv), .ref soA, .ref ikA, .ref txA, .int (iI len), .int (iI thr), .int (iI nvi), .ref viA, .int (iI low), .int (iI high), .ref srA, .ref frA, .ref toA, .ref hoA, .ref keA, .int (iI nto), .int (iI spo), .int (iI mos)], aI t zA 646 z, aI t spA 646 sp, aI t svA 3876 sv, aI t soA 1292 so, aZ t ikA 2 ik, aI t txA 60 tx, aI t viA 120 vi, aI t srA 120 sr, aI t frA 122 fr, aI t toA 122 to, aI t hoA 31 ho, aI t keA 31 ke]) (wr := []) (pmI [0, 1, 2, 3, 4, 5, 6, 7, 8, 9, 10, 11, 12] 13 rfl (by decide +kernel) rfl) rfl rfl (met_X5_queue l D t hM zA spA svA soA ikA txA viA srA frA toA hoA keA nsv len thr nvi low high nto spo mos z sp sv so ik tx vi sr fr to ho ke x1 x2 _ hv) rfl gX5_act_X5_queue rfl ⟨rfl, rfl⟩ ok_X5_queue (by decide) (Nat.le_of_ble_eq_true rfl) dX5_act_67 (by decide) (fun u9 hv => ?_)
        obtain ⟨z_6, h9⟩ : ∃ z, z = u9 := ⟨_, rfl⟩
        subst h9
        try dsimp only at hv
        refine V_perm (ws1 := [oB hM 5 [.ref zA, .ref spA, .ref svA, .int (iI nsv), .ref soA, .ref ikA, .ref txA, .int (iI len), .int (iI thr), .int (iI nvi), .ref viA, .int (iI low), .int (iI high), .ref srA, .ref frA, .ref toA, .ref hoA, .ref keA, .int (iI nto), .int (iI spo), .int (iI mos)], aI t zA 646 z_6, aI t spA 646 sp, aI t svA 3876 sv, aI t soA 1292 so, aZ t ikA 2 ik, aI t txA 60 tx, aI t viA 120 vi, aI t srA 120 sr, aI t frA 122 fr, aI t toA 122 to, aI t hoA 31 ho, aI t keA 31 ke]) (pmI [0, 1, 2, 3, 4, 5, 6, 7, 8, 9, 10, 11, 12] 13 rfl (by decide +kernel) rfl) ?_
        refine V_iconst hc dX5_act_70 ?_
        refine V_istore hc dX5_act_71 [(4, .int (iI 0)), (0, .ref hM), (1, .int (iI x1)), (2, .int (iI x2)), (3, .int (iI x3))] (by decide) rfl ?_
        refine V_lv [1, 4, 0] [(0, .ref hM), (3, .int (iI x3)), (4, .int (iI 0))] rfl ?_
        obtain ⟨n9, hv⟩ := hv
        exact L_73 sr fr to n9 nvi low high z_6 vi x3 0 hv
  refine V_lv [0, 1, 2] [(0, .ref hM), (1, .int (iI x1)), (2, .int (iI x2))] rfl ?_
  unfold wp_X5_act at hv
  refine V_iconst hc dX5_act_0 ?_
  refine V_istore_n hc dX5_act_1 [(3, .int (iI 0)), (0, .ref hM), (1, .int (iI x1)), (2, .int (iI x2))] (by decide) rfl ?_
  refine V_iload_n hc dX5_act_2 2 rfl ?_
  refine V_iconst hc dX5_act_3 ?_
  refine V_icmp_eq (tgt := 70) hc dX5_act_4 (by decide) ⟨hv.1, by decide, hv.2⟩ (fun hv => ?_) (fun hv => ?_)
  · refine V_iconst hc dX5_act_70 ?_
    refine V_istore hc dX5_act_71 [(4, .int (iI 0)), (3, .int (iI 0)), (0, .ref hM), (1, .int (iI x1)), (2, .int (iI x2))] (by decide) rfl ?_
    refine V_lv [2, 1, 0] [(0, .ref hM), (3, .int (iI 0)), (4, .int (iI 0))] rfl ?_
    obtain ⟨n9, hv⟩ := hv
    exact L_73 sr fr to n9 nvi low high z vi 0 0 hv
  · refine V_aload_n hc dX5_act_7 1 rfl ?_
    refine V_iconst hc dX5_act_8 ?_
    refine V_iload_n hc dX5_act_9 3 rfl ?_
    refine V_callVI (As := [.int (iI 0), .int (iI x2)]) hc (wc := [oB hM 5 [.ref zA, .ref spA, .ref svA, .int (iI nsv), .ref soA, .ref ikA, .ref txA, .int (iI len), .int (iI thr), .int (iI nvi), .ref viA, .int (iI low), .int (iI high), .ref srA, .ref frA, .ref toA, .ref hoA, .ref keA, .int (iI nto), .int (iI spo), .int (iI mos)], aI t zA 646 z, aI t spA 646 sp, aI t svA 3876 sv, aI t soA 1292 so, aZ t ikA 2 ik, aI t txA 60 tx, aI t viA 120 vi, aI t srA 120 sr, aI t frA 122 fr, aI t toA 122 to, aI t hoA 31 ho, aI t keA 31 ke]) (wr := []) (pmI [0, 1, 2, 3, 4, 5, 6, 7, 8, 9, 10, 11, 12] 13 rfl (by decide +kernel) rfl) rfl rfl (met_X5_isPresent l D t hM zA spA svA soA ikA txA viA srA frA toA hoA keA nsv len thr nvi low high nto spo mos z sp sv so ik tx vi sr fr to ho ke 0 x2 _ hv) rfl gX5_act_X5_isPresent rfl ⟨rfl, rfl⟩ ok_X5_isPresent (by decide) (Nat.le_of_ble_eq_true rfl) dX5_act_10 (by decide) (fun r_1 _ hv => ?_)
    try dsimp only at hv
    refine V_perm (ws1 := [oB hM 5 [.ref zA, .ref spA, .ref svA, .int (iI nsv), .ref soA, .ref ikA, .ref txA, .int (iI len), .int (iI thr), .int (iI nvi), .ref viA, .int (iI low), .int (iI high), .ref srA, .ref frA, .ref toA, .ref hoA, .ref keA, .int (iI nto), .int (iI spo), .int (iI mos)], aI t zA 646 z, aI t spA 646 sp, aI t svA 3876 sv, aI t soA 1292 so, aZ t ikA 2 ik, aI t txA 60 tx, aI t viA 120 vi, aI t srA 120 sr, aI t frA 122 fr, aI t toA 122 to, aI t hoA 31 ho, aI t keA 31 ke]) (pmI [0, 1, 2, 3, 4, 5, 6, 7, 8, 9, 10, 11, 12] 13 rfl (by decide +kernel) rfl) ?_
    refine V_istore hc dX5_act_13 [(4, .int (iI r_1)), (3, .int (iI 0)), (0, .ref hM), (1, .int (iI x1)), (2, .int (iI x2))] (by decide) rfl ?_
    refine V_aload_n hc dX5_act_15 2 rfl ?_
    refine V_iconst hc dX5_act_16 ?_
    refine V_iload_n hc dX5_act_17 4 rfl ?_
    refine V_callVI (As := [.int (iI 0), .int (iI x2)]) hc (wc := [oB hM 5 [.ref zA, .ref spA, .ref svA, .int (iI nsv), .ref soA, .ref ikA, .ref txA, .int (iI len), .int (iI thr), .int (iI nvi), .ref viA, .int (iI low), .int (iI high), .ref srA, .ref frA, .ref toA, .ref hoA, .ref keA, .int (iI nto), .int (iI spo), .int (iI mos)], aI t zA 646 z, aI t spA 646 sp, aI t svA 3876 sv, aI t soA 1292 so, aZ t ikA 2 ik, aI t txA 60 tx, aI t viA 120 vi, aI t srA 120 sr, aI t frA 122 fr, aI t toA 122 to, aI t hoA 31 ho, aI t keA 31 ke]) (wr := []) (pmI [0, 1, 2, 3, 4, 5, 6, 7, 8, 9, 10, 11, 12] 13 rfl (by decide +kernel) rfl) rfl rfl (met_X5_depthOf l D t hM zA spA svA soA ikA txA viA srA frA toA hoA keA nsv len thr nvi low high nto spo mos z sp sv so ik tx vi sr fr to ho ke 0 x2 _ hv) rfl gX5_act_X5_depthOf rfl ⟨rfl, rfl⟩ ok_X5_depthOf (by decide) (Nat.le_of_ble_eq_true rfl) dX5_act_18 (by decide) (fun r_2 u9 hv => ?_)
    obtain ⟨nvi_2, low_2, high_2, vi_2⟩ := u9
    try dsimp only at hv
    refine V_perm (ws1 := [oB hM 5 [.ref zA, .ref spA, .ref svA, .int (iI nsv), .ref soA, .ref ikA, .ref txA, .int (iI len), .int (iI thr), .int (iI nvi_2), .ref viA, .int (iI low_2), .int (iI high_2), .ref srA, .ref frA, .ref toA, .ref hoA, .ref keA, .int (iI nto), .int (iI spo), .int (iI mos)], aI t zA 646 z, aI t spA 646 sp, aI t svA 3876 sv, aI t soA 1292 so, aZ t ikA 2 ik, aI t txA 60 tx, aI t viA 120 vi_2, aI t srA 120 sr, aI t frA 122 fr, aI t toA 122 to, aI t hoA 31 ho, aI t keA 31 ke]) (pmI [0, 1, 2, 3, 4, 5, 6, 7, 8, 9, 10, 11, 12] 13 rfl (by decide +kernel) rfl) ?_
    refine V_istore_n hc dX5_act_21 [(3, .int (iI r_2)), (4, .int (iI r_1)), (0, .ref hM), (1, .int (iI x1)), (2, .int (iI x2))] (by decide) rfl ?_
    refine V_iload_n hc dX5_act_22 3 rfl ?_
    refine V_if_ne (tgt := 35) hc dX5_act_23 (by decide) hv (fun hv => ?_) (fun hv => ?_)
    · refine V_aload_n hc dX5_act_35 2 rfl ?_
      refine V_iconst hc dX5_act_36 ?_
      refine V_iload_n hc dX5_act_37 4 rfl ?_
      refine V_callVV (As := [.int (iI 0), .int (iI x2)]) hc (wc := [oB hM 5 [.ref zA, .ref spA, .ref svA, .int (iI nsv), .ref soA, .ref ikA, .ref txA, .int (iI len), .int (iI thr), .int (iI nvi_2), .ref viA, .int (iI low_2), .int (iI high_2), .ref srA, .ref frA, .ref toA, .ref hoA, .ref keA, .int (iI nto), .int (iI spo), .int (iI mos)], aI t zA 646 z, aI t spA 646 sp, aI t svA 3876 sv, aI t soA 1292 so, aZ t ikA 2 ik, aI t txA 60 tx, aI t viA 120 vi_2, aI t srA 120 sr, aI t frA 122 fr, aI t toA 122 to, aI t hoA 31 ho, aI t keA 31 ke]) (wr := []) (pmI [0, 1, 2, 3, 4, 5, 6, 7, 8, 9, 10, 11, 12] 13 rfl (by decide +kernel) rfl) rfl rfl (met_X5_mark l D t hM zA spA svA soA ikA txA viA srA frA toA hoA keA nsv len thr nvi_2 low_2 high_2 nto spo mos z sp sv so ik tx vi_2 sr fr to ho ke 0 x2 _ hv) rfl gX5_act_X5_mark rfl ⟨rfl, rfl⟩ ok_X5_mark (by decide) (Nat.le_of_ble_eq_true rfl) dX5_act_38 (by decide) (fun u9 hv => ?_)
      obtain ⟨z_3, h9⟩ : ∃ z, z = u9 := ⟨_, rfl⟩
      subst h9
      try dsimp only at hv
      refine V_perm (ws1 := [oB hM 5 [.ref zA, .ref spA, .ref svA, .int (iI nsv), .ref soA, .ref ikA, .ref txA, .int (iI len), .int (iI thr), .int (iI nvi_2), .ref viA, .int (iI low_2), .int (iI high_2), .ref srA, .ref frA, .ref toA, .ref hoA, .ref keA, .int (iI nto), .int (iI spo), .int (iI mos)], aI t zA 646 z_3, aI t spA 646 sp, aI t svA 3876 sv, aI t soA 1292 so, aZ t ikA 2 ik, aI t txA 60 tx, aI t viA 120 vi_2, aI t srA 120 sr, aI t frA 122 fr, aI t toA 122 to, aI t hoA 31 ho, aI t keA 31 ke]) (pmI [0, 1, 2, 3, 4, 5, 6, 7, 8, 9, 10, 11, 12] 13 rfl (by decide +kernel) rfl) ?_
      refine V_lv [2, 3, 4, 0, 1] [(0, .ref hM), (1, .int (iI x1)), (2, .int (iI x2)), (3, .int (iI r_2)), (4, .int (iI r_1))] rfl ?_
      exact C_41 nvi_2 low_2 high_2 z_3 vi_2 sr fr to x1 x2 r_2 r_1 hv
    · refine V_aload_n hc dX5_act_26 2 rfl ?_
      refine V_iconst hc dX5_act_27 ?_
      refine V_iload_n hc dX5_act_28 4 rfl ?_
      refine V_callVV (As := [.int (iI 0), .int (iI x2)]) hc (wc := [oB hM 5 [.ref zA, .ref spA, .ref svA, .int (iI nsv), .ref soA, .ref ikA, .ref txA, .int (iI len), .int (iI thr), .int (iI nvi_2), .ref viA, .int (iI low_2), .int (iI high_2), .ref srA, .ref frA, .ref toA, .ref hoA, .ref keA, .int (iI nto), .int (iI spo), .int (iI mos)], aI t zA 646 z, aI t spA 646 sp, aI t svA 3876 sv, aI t soA 1292 so, aZ t ikA 2 ik, aI t txA 60 tx, aI t viA 120 vi_2, aI t srA 120 sr, aI t frA 122 fr, aI t toA 122 to, aI t hoA 31 ho, aI t keA 31 ke]) (wr := []) (pmI [0, 1, 2, 3, 4, 5, 6, 7, 8, 9, 10, 11, 12] 13 rfl (by decide +kernel) rfl) rfl rfl (met_X5_put l D t hM zA spA svA soA ikA txA viA srA frA toA hoA keA nsv len thr nvi_2 low_2 high_2 nto spo mos z sp sv so ik tx vi_2 sr fr to ho ke 0 x2 _ hv) rfl gX5_act_X5_put rfl ⟨rfl, rfl⟩ ok_X5_put (by decide) (Nat.le_of_ble_eq_true rfl) dX5_act_29 (by decide) (fun u9 hv => ?_)
      obtain ⟨z_4, h9⟩ : ∃ z, z = u9 := ⟨_, rfl⟩
      subst h9
      try dsimp only at hv
      refine V_perm (ws1 := [oB hM 5 [.ref zA, .ref spA, .ref svA, .int (iI nsv), .ref soA, .ref ikA, .ref txA, .int (iI len), .int (iI thr), .int (iI nvi_2), .ref viA, .int (iI low_2), .int (iI high_2), .ref srA, .ref frA, .ref toA, .ref hoA, .ref keA, .int (iI nto), .int (iI spo), .int (iI mos)], aI t zA 646 z_4, aI t spA 646 sp, aI t svA 3876 sv, aI t soA 1292 so, aZ t ikA 2 ik, aI t txA 60 tx, aI t viA 120 vi_2, aI t srA 120 sr, aI t frA 122 fr, aI t toA 122 to, aI t hoA 31 ho, aI t keA 31 ke]) (pmI [0, 1, 2, 3, 4, 5, 6, 7, 8, 9, 10, 11, 12] 13 rfl (by decide +kernel) rfl) ?_
      refine V_goto (tgt := 41) hc dX5_act_32 (by decide) ?_
      refine V_lv [2, 3, 4, 0, 1] [(0, .ref hM), (1, .int (iI x1)), (2, .int (iI x2)), (3, .int (iI r_2)), (4, .int (iI r_1))] rfl ?_
      exact C_41 nvi_2 low_2 high_2 z_4 vi_2 sr fr to x1 x2 r_2 r_1 hv
abbrev W1_X5_hasRoom (t : Nat → ClassId) (hM : Nat) (zA : Nat) (spA : Nat) (svA : Nat) (soA : Nat) (ikA : Nat) (txA : Nat) (viA : Nat) (srA : Nat) (frA : Nat) (toA : Nat) (hoA : Nat) (keA : Nat) (nsv : Int) (len : Int) (thr : Int) (nvi : Int) (low : Int) (high : Int) (nto : Int) (spo : Int) (mos : Int) (z : Nat → Int) (sp : Nat → Int) (sv : Nat → Int) (so : Nat → Int) (ik : Nat → Int) (tx : Nat → Int) (vi : Nat → Int) (sr : Nat → Int) (fr : Nat → Int) (to : Nat → Int) (ho : Nat → Int) (ke : Nat → Int) (u : Unit) : va_W := [oB hM 5 [.ref zA, .ref spA, .ref svA, .int (iI nsv), .ref soA, .ref ikA, .ref txA, .int (iI len), .int (iI thr), .int (iI nvi), .ref viA, .int (iI low), .int (iI high), .ref srA, .ref frA, .ref toA, .ref hoA, .ref keA, .int (iI nto), .int (iI spo), .int (iI mos)], aI t zA 646 z, aI t spA 646 sp, aI t svA 3876 sv, aI t soA 1292 so, aZ t ikA 2 ik, aI t txA 60 tx, aI t viA 120 vi, aI t srA 120 sr, aI t frA 122 fr, aI t toA 122 to, aI t hoA 31 ho, aI t keA 31 ke]
abbrev po_X5_hasRoom (Q : Int → Prop) (r : Int) (u : Unit) : Prop := Q r
abbrev rm_X5_hasRoom : Room := { frames := 1, cells := 0, slots := 0, locals := 24 }
def wp_X5_hasRoom (z : Nat → Int) (x1 : Int) (Q : Int → Prop) : Prop := inR (z 0) ∧ (z 0 < 120 → Q 1) ∧ (¬ (z 0 < 120) → wp_X5_placeOf z 0 x1 (fun r_1 => inR r_1 ∧ (r_1 = (-1) → Q 0) ∧ (¬ (r_1 = (-1)) → Q 1)))
theorem m_X5_hasRoom_7 : Cond.fieldLink RX5 7 "BackgroundRebuildModel" "z" "[I" ∈ wsX5_hasRoom := by decide +kernel
theorem i_X5_hasRoom_5 : ∀ w ∈ u_ws RX5 TX5 21, w ∈ wsX5_hasRoom := by decide +kernel
theorem ok_X5_hasRoom : yX5_hasRoom.cls = RX5 ∧ yX5_hasRoom.cls ≠ "java/lang/invoke/MethodHandle" ∧ yX5_hasRoom.cls ≠ "java/lang/invoke/VarHandle" ∧ (parseMethodDescriptor yX5_hasRoom.desc).map (fun d => d.parameters.length) = some 1 := by decide +kernel
set_option maxHeartbeats 4000000 in
set_option maxRecDepth 100000 in
theorem met_X5_hasRoom (l : Launch) (D : va_G) (t : Nat → ClassId) (hM : Nat) (zA : Nat) (spA : Nat) (svA : Nat) (soA : Nat) (ikA : Nat) (txA : Nat) (viA : Nat) (srA : Nat) (frA : Nat) (toA : Nat) (hoA : Nat) (keA : Nat) (nsv : Int) (len : Int) (thr : Int) (nvi : Int) (low : Int) (high : Int) (nto : Int) (spo : Int) (mos : Int) (z : Nat → Int) (sp : Nat → Int) (sv : Nat → Int) (so : Nat → Int) (ik : Nat → Int) (tx : Nat → Int) (vi : Nat → Int) (sr : Nat → Int) (fr : Nat → Int) (to : Nat → Int) (ho : Nat → Int) (ke : Nat → Int) (x1 : Int) (Q : Int → Prop) (hv : wp_X5_hasRoom z x1 Q) : MI l D t yX5_hasRoom wsX5_hasRoom rm_X5_hasRoom [.ref hM, .int (iI x1)] [oB hM 5 [.ref zA, .ref spA, .ref svA, .int (iI nsv), .ref soA, .ref ikA, .ref txA, .int (iI len), .int (iI thr), .int (iI nvi), .ref viA, .int (iI low), .int (iI high), .ref srA, .ref frA, .ref toA, .ref hoA, .ref keA, .int (iI nto), .int (iI spo), .int (iI mos)], aI t zA 646 z, aI t spA 646 sp, aI t svA 3876 sv, aI t soA 1292 so, aZ t ikA 2 ik, aI t txA 60 tx, aI t viA 120 vi, aI t srA 120 sr, aI t frA 122 fr, aI t toA 122 to, aI t hoA 31 ho, aI t keA 31 ke] (W1_X5_hasRoom t hM zA spA svA soA ikA txA viA srA frA toA hoA keA nsv len thr nvi low high nto spo mos z sp sv so ik tx vi sr fr to ho ke) (po_X5_hasRoom Q) 0 0 := by
  refine M_ofz (cc := cX5_hasRoom) (nL := 2) (by decide) rfl (Nat.le_of_ble_eq_true rfl) ?_
  intro p e s m args below meth c A hc hr
  refine V_lv [0, 1] [(0, .ref hM), (1, .int (iI x1))] rfl ?_
  unfold wp_X5_hasRoom at hv
  refine V_aload_n hc dX5_hasRoom_0 0 rfl ?_
  refine V_get (C := RX5) (T := TX5) (N := 21) hc i_X5_hasRoom_5 0 rfl rfl 0 (by decide) m_X5_hasRoom_7 rfl dX5_hasRoom_1 ?_
  refine V_iconst hc dX5_hasRoom_4 ?_
  refine V_iald hc 1 rfl (by decide) ⟨by decide, hv⟩ dX5_hasRoom_5 (fun hv => ?_)
  refine V_bipush hc dX5_hasRoom_6 (by decide) ?_
  refine V_icmp_lt (tgt := 21) hc dX5_hasRoom_8 (by decide) ⟨hv.1, by decide, hv.2⟩ (fun hv => ?_) (fun hv => ?_)
  · refine V_iconst hc dX5_hasRoom_21 ?_
    refine V_goto (tgt := 26) hc dX5_hasRoom_22 (by decide) ?_
    exact V_zret hc hr () ⟨by decide, hv⟩ rfl dX5_hasRoom_26
  · refine V_aload_n hc dX5_hasRoom_11 0 rfl ?_
    refine V_iconst hc dX5_hasRoom_12 ?_
    refine V_iload_n hc dX5_hasRoom_13 1 rfl ?_
    refine V_callVI (As := [.int (iI 0), .int (iI x1)]) hc (wc := [oB hM 5 [.ref zA, .ref spA, .ref svA, .int (iI nsv), .ref soA, .ref ikA, .ref txA, .int (iI len), .int (iI thr), .int (iI nvi), .ref viA, .int (iI low), .int (iI high), .ref srA, .ref frA, .ref toA, .ref hoA, .ref keA, .int (iI nto), .int (iI spo), .int (iI mos)], aI t zA 646 z, aI t spA 646 sp, aI t svA 3876 sv, aI t soA 1292 so, aZ t ikA 2 ik, aI t txA 60 tx, aI t viA 120 vi, aI t srA 120 sr, aI t frA 122 fr, aI t toA 122 to, aI t hoA 31 ho, aI t keA 31 ke]) (wr := []) (pmI [0, 1, 2, 3, 4, 5, 6, 7, 8, 9, 10, 11, 12] 13 rfl (by decide +kernel) rfl) rfl rfl (met_X5_placeOf l D t hM zA spA svA soA ikA txA viA srA frA toA hoA keA nsv len thr nvi low high nto spo mos z sp sv so ik tx vi sr fr to ho ke 0 x1 _ hv) rfl gX5_hasRoom_X5_placeOf rfl ⟨rfl, rfl⟩ ok_X5_placeOf (by decide) (Nat.le_of_ble_eq_true rfl) dX5_hasRoom_14 (by decide) (fun r_1 _ hv => ?_)
    try dsimp only at hv
    refine V_perm (ws1 := [oB hM 5 [.ref zA, .ref spA, .ref svA, .int (iI nsv), .ref soA, .ref ikA, .ref txA, .int (iI len), .int (iI thr), .int (iI nvi), .ref viA, .int (iI low), .int (iI high), .ref srA, .ref frA, .ref toA, .ref hoA, .ref keA, .int (iI nto), .int (iI spo), .int (iI mos)], aI t zA 646 z, aI t spA 646 sp, aI t svA 3876 sv, aI t soA 1292 so, aZ t ikA 2 ik, aI t txA 60 tx, aI t viA 120 vi, aI t srA 120 sr, aI t frA 122 fr, aI t toA 122 to, aI t hoA 31 ho, aI t keA 31 ke]) (pmI [0, 1, 2, 3, 4, 5, 6, 7, 8, 9, 10, 11, 12] 13 rfl (by decide +kernel) rfl) ?_
    refine V_iconst hc dX5_hasRoom_17 ?_
    refine V_icmp_eq (tgt := 25) hc dX5_hasRoom_18 (by decide) ⟨hv.1, by decide, hv.2⟩ (fun hv => ?_) (fun hv => ?_)
    · refine V_iconst hc dX5_hasRoom_25 ?_
      exact V_zret hc hr () ⟨by decide, hv⟩ rfl dX5_hasRoom_26
    · refine V_iconst hc dX5_hasRoom_21 ?_
      refine V_goto (tgt := 26) hc dX5_hasRoom_22 (by decide) ?_
      exact V_zret hc hr () ⟨by decide, hv⟩ rfl dX5_hasRoom_26
abbrev W1_X5_add (t : Nat → ClassId) (hM : Nat) (zA : Nat) (spA : Nat) (svA : Nat) (soA : Nat) (ikA : Nat) (txA : Nat) (viA : Nat) (srA : Nat) (frA : Nat) (toA : Nat) (hoA : Nat) (keA : Nat) (len : Int) (nto : Int) (spo : Int) (mos : Int) (sp : Nat → Int) (so : Nat → Int) (ik : Nat → Int) (tx : Nat → Int) (ho : Nat → Int) (ke : Nat → Int) (u : (Int) × (Int) × (Int) × (Int) × (Int) × (Nat → Int) × (Nat → Int) × (Nat → Int) × (Nat → Int) × (Nat → Int) × (Nat → Int)) : va_W := [oB hM 5 [.ref zA, .ref spA, .ref svA, .int (iI u.1), .ref soA, .ref ikA, .ref txA, .int (iI len), .int (iI u.2.1), .int (iI u.2.2.1), .ref viA, .int (iI u.2.2.2.1), .int (iI u.2.2.2.2.1), .ref srA, .ref frA, .ref toA, .ref hoA, .ref keA, .int (iI nto), .int (iI spo), .int (iI mos)], aI t zA 646 u.2.2.2.2.2.1, aI t spA 646 sp, aI t svA 3876 u.2.2.2.2.2.2.1, aI t soA 1292 so, aZ t ikA 2 ik, aI t txA 60 tx, aI t viA 120 u.2.2.2.2.2.2.2.1, aI t srA 120 u.2.2.2.2.2.2.2.2.1, aI t frA 122 u.2.2.2.2.2.2.2.2.2.1, aI t toA 122 u.2.2.2.2.2.2.2.2.2.2, aI t hoA 31 ho, aI t keA 31 ke]
abbrev po_X5_add (Q : Int → (Int) → (Int) → (Int) → (Int) → (Int) → (Nat → Int) → (Nat → Int) → (Nat → Int) → (Nat → Int) → (Nat → Int) → (Nat → Int) → Prop) (r : Int) (u : (Int) × (Int) × (Int) × (Int) × (Int) × (Nat → Int) × (Nat → Int) × (Nat → Int) × (Nat → Int) × (Nat → Int) × (Nat → Int)) : Prop := Q r u.1 u.2.1 u.2.2.1 u.2.2.2.1 u.2.2.2.2.1 u.2.2.2.2.2.1 u.2.2.2.2.2.2.1 u.2.2.2.2.2.2.2.1 u.2.2.2.2.2.2.2.2.1 u.2.2.2.2.2.2.2.2.2.1 u.2.2.2.2.2.2.2.2.2.2
abbrev rm_X5_add : Room := { frames := 5, cells := 0, slots := 0, locals := 117 }
def wp_X5_add_25 (nsv : Int) (thr : Int) (nvi : Int) (low : Int) (high : Int) (z : Nat → Int) (sv : Nat → Int) (vi : Nat → Int) (sr : Nat → Int) (fr : Nat → Int) (to : Nat → Int) (x1 : Int) (s0 : Int) (Q : Int → (Int) → (Int) → (Int) → (Int) → (Int) → (Nat → Int) → (Nat → Int) → (Nat → Int) → (Nat → Int) → (Nat → Int) → (Nat → Int) → Prop) : Prop := wp_X5_refused thr s0 (fun r_3 thr_3 => inR r_3 ∧ (r_3 = 0 → wp_X5_saveState nsv z sv (fun nsv_4 sv_4 => wp_X5_isPresent z 0 x1 (fun r_5 => inR r_5 ∧ (r_5 = 0 → wp_X5_act nvi low high z vi sr fr to 0 x1 (fun r_6 nvi_6 low_6 high_6 z_6 vi_6 sr_6 fr_6 to_6 => Q 1 nsv_4 thr_3 nvi_6 low_6 high_6 z_6 sv_4 vi_6 sr_6 fr_6 to_6)) ∧ (¬ (r_5 = 0) → wp_X5_act nvi low high z vi sr fr to 0 x1 (fun r_7 nvi_7 low_7 high_7 z_7 vi_7 sr_7 fr_7 to_7 => Q 0 nsv_4 thr_3 nvi_7 low_7 high_7 z_7 sv_4 vi_7 sr_7 fr_7 to_7))))) ∧ (¬ (r_3 = 0) → Q 0 nsv thr_3 nvi low high z sv vi sr fr to))
def wp_X5_add (nsv : Int) (thr : Int) (nvi : Int) (low : Int) (high : Int) (z : Nat → Int) (sv : Nat → Int) (vi : Nat → Int) (sr : Nat → Int) (fr : Nat → Int) (to : Nat → Int) (x1 : Int) (Q : Int → (Int) → (Int) → (Int) → (Int) → (Int) → (Nat → Int) → (Nat → Int) → (Nat → Int) → (Nat → Int) → (Nat → Int) → (Nat → Int) → Prop) : Prop := wp_X5_isKey x1 (fun r_1 => inR r_1 ∧ (r_1 ≠ 0 → wp_X5_hasRoom z x1 (fun r_2 => inR r_2 ∧ (r_2 = 0 → wp_X5_add_25 nsv thr nvi low high z sv vi sr fr to x1 2 Q) ∧ (¬ (r_2 = 0) → wp_X5_add_25 nsv thr nvi low high z sv vi sr fr to x1 0 Q))) ∧ (¬ (r_1 ≠ 0) → wp_X5_add_25 nsv thr nvi low high z sv vi sr fr to x1 1 Q))
theorem ok_X5_add : yX5_add.cls = RX5 ∧ yX5_add.cls ≠ "java/lang/invoke/MethodHandle" ∧ yX5_add.cls ≠ "java/lang/invoke/VarHandle" ∧ (parseMethodDescriptor yX5_add.desc).map (fun d => d.parameters.length) = some 1 := by decide +kernel
set_option maxHeartbeats 4000000 in
set_option maxRecDepth 100000 in
theorem met_X5_add (l : Launch) (D : va_G) (t : Nat → ClassId) (hM : Nat) (zA : Nat) (spA : Nat) (svA : Nat) (soA : Nat) (ikA : Nat) (txA : Nat) (viA : Nat) (srA : Nat) (frA : Nat) (toA : Nat) (hoA : Nat) (keA : Nat) (nsv : Int) (len : Int) (thr : Int) (nvi : Int) (low : Int) (high : Int) (nto : Int) (spo : Int) (mos : Int) (z : Nat → Int) (sp : Nat → Int) (sv : Nat → Int) (so : Nat → Int) (ik : Nat → Int) (tx : Nat → Int) (vi : Nat → Int) (sr : Nat → Int) (fr : Nat → Int) (to : Nat → Int) (ho : Nat → Int) (ke : Nat → Int) (x1 : Int) (Q : Int → (Int) → (Int) → (Int) → (Int) → (Int) → (Nat → Int) → (Nat → Int) → (Nat → Int) → (Nat → Int) → (Nat → Int) → (Nat → Int) → Prop) (hv : wp_X5_add nsv thr nvi low high z sv vi sr fr to x1 Q) : MI l D t yX5_add wsX5_add rm_X5_add [.ref hM, .int (iI x1)] [oB hM 5 [.ref zA, .ref spA, .ref svA, .int (iI nsv), .ref soA, .ref ikA, .ref txA, .int (iI len), .int (iI thr), .int (iI nvi), .ref viA, .int (iI low), .int (iI high), .ref srA, .ref frA, .ref toA, .ref hoA, .ref keA, .int (iI nto), .int (iI spo), .int (iI mos)], aI t zA 646 z, aI t spA 646 sp, aI t svA 3876 sv, aI t soA 1292 so, aZ t ikA 2 ik, aI t txA 60 tx, aI t viA 120 vi, aI t srA 120 sr, aI t frA 122 fr, aI t toA 122 to, aI t hoA 31 ho, aI t keA 31 ke] (W1_X5_add t hM zA spA svA soA ikA txA viA srA frA toA hoA keA len nto spo mos sp so ik tx ho ke) (po_X5_add Q) 0 0 := by
  refine M_ofi (cc := cX5_add) (nL := 3) (by decide) rfl (Nat.le_of_ble_eq_true rfl) ?_
  intro p e s m args below meth c A hc hr
  have C_25 : ∀ (nsv : Int) (thr : Int) (nvi : Int) (low : Int) (high : Int) (z : Nat → Int) (sv : Nat → Int) (vi : Nat → Int) (sr : Nat → Int) (fr : Nat → Int) (to : Nat → Int) (x1 : Int) (s0 : Int), wp_X5_add_25 nsv thr nvi low high z sv vi sr fr to x1 s0 Q → V p l e rm_X5_add s m args below meth c D A 3 0 0 (MQ below (QI D A (W1_X5_add t hM zA spA svA soA ikA txA viA srA frA toA hoA keA len nto spo mos sp so ik tx ho ke) (po_X5_add Q)) args s 0 0 A) 25 [(0, .ref hM), (1, .int (iI x1))] [.int (iI s0), .ref hM] [oB hM 5 [.ref zA, .ref spA, .ref svA, .int (iI nsv), .ref soA, .ref ikA, .ref txA, .int (iI len), .int (iI thr), .int (iI nvi), .ref viA, .int (iI low), .int (iI high), .ref srA, .ref frA, .ref toA, .ref hoA, .ref keA, .int (iI nto), .int (iI spo), .int (iI mos)], aI t zA 646 z, aI t spA 646 sp, aI t svA 3876 sv, aI t soA 1292 so, aZ t ikA 2 ik, aI t txA 60 tx, aI t viA 120 vi, aI t srA 120 sr, aI t frA 122 fr, aI t toA 122 to, aI t hoA 31 ho, aI t keA 31 ke] := by
    intro nsv thr nvi low high z sv vi sr fr to x1 s0 hv
    unfold wp_X5_add_25 at hv
    refine V_callVI (As := [.int (iI s0)]) hc (wc := [oB hM 5 [.ref zA, .ref spA, .ref svA, .int (iI nsv), .ref soA, .ref ikA, .ref txA, .int (iI len), .int (iI thr), .int (iI nvi), .ref viA, .int (iI low), .int (iI high), .ref srA, .ref frA, .ref toA, .ref hoA, .ref keA, .int (iI nto), .int (iI spo), .int (iI mos)], aI t zA 646 z, aI t spA 646 sp, aI t svA 3876 sv, aI t soA 1292 so, aZ t ikA 2 ik, aI t txA 60 tx, aI t viA 120 vi, aI t srA 120 sr, aI t frA 122 fr, aI t toA 122 to, aI t hoA 31 ho, aI t keA 31 ke]) (wr := []) (pmI [0, 1, 2, 3, 4, 5, 6, 7, 8, 9, 10, 11, 12] 13 rfl (by decide +kernel) rfl) rfl rfl (met_X5_refused l D t hM zA spA svA soA ikA txA viA srA frA toA hoA keA nsv len thr nvi low high nto spo mos z sp sv so ik tx vi sr fr to ho ke s0 _ hv) rfl gX5_add_X5_refused rfl ⟨rfl, rfl⟩ ok_X5_refused (by decide) (Nat.le_of_ble_eq_true rfl) dX5_add_25 (by decide) (fun r_3 u9 hv => ?_)
    obtain ⟨thr_3, h9⟩ : ∃ z, z = u9 := ⟨_, rfl⟩
    subst h9
    try dsimp only at hv
    refine V_perm (ws1 := [oB hM 5 [.ref zA, .ref spA, .ref svA, .int (iI nsv), .ref soA, .ref ikA, .ref txA, .int (iI len), .int (iI thr_3), .int (iI nvi), .ref viA, .int (iI low), .int (iI high), .ref srA, .ref frA, .ref toA, .ref hoA, .ref keA, .int (iI nto), .int (iI spo), .int (iI mos)], aI t zA 646 z, aI t spA 646 sp, aI t svA 3876 sv, aI t soA 1292 so, aZ t ikA 2 ik, aI t txA 60 tx, aI t viA 120 vi, aI t srA 120 sr, aI t frA 122 fr, aI t toA 122 to, aI t hoA 31 ho, aI t keA 31 ke]) (pmI [0, 1, 2, 3, 4, 5, 6, 7, 8, 9, 10, 11, 12] 13 rfl (by decide +kernel) rfl) ?_
    refine V_if_eq (tgt := 33) hc dX5_add_28 (by decide) hv (fun hv => ?_) (fun hv => ?_)
    · refine V_aload_n hc dX5_add_33 0 rfl ?_
      refine V_callVV (As := []) hc (wc := [oB hM 5 [.ref zA, .ref spA, .ref svA, .int (iI nsv), .ref soA, .ref ikA, .ref txA, .int (iI len), .int (iI thr_3), .int (iI nvi), .ref viA, .int (iI low), .int (iI high), .ref srA, .ref frA, .ref toA, .ref hoA, .ref keA, .int (iI nto), .int (iI spo), .int (iI mos)], aI t zA 646 z, aI t spA 646 sp, aI t svA 3876 sv, aI t soA 1292 so, aZ t ikA 2 ik, aI t txA 60 tx, aI t viA 120 vi, aI t srA 120 sr, aI t frA 122 fr, aI t toA 122 to, aI t hoA 31 ho, aI t keA 31 ke]) (wr := []) (pmI [0, 1, 2, 3, 4, 5, 6, 7, 8, 9, 10, 11, 12] 13 rfl (by decide +kernel) rfl) rfl rfl (met_X5_saveState l D t hM zA spA svA soA ikA txA viA srA frA toA hoA keA nsv len thr_3 nvi low high nto spo mos z sp sv so ik tx vi sr fr to ho ke _ hv) rfl gX5_add_X5_saveState rfl ⟨rfl, rfl⟩ ok_X5_saveState (by decide) (Nat.le_of_ble_eq_true rfl) dX5_add_34 (by decide) (fun u9 hv => ?_)
      obtain ⟨nsv_4, sv_4⟩ := u9
      try dsimp only at hv
      refine V_perm (ws1 := [oB hM 5 [.ref zA, .ref spA, .ref svA, .int (iI nsv_4), .ref soA, .ref ikA, .ref txA, .int (iI len), .int (iI thr_3), .int (iI nvi), .ref viA, .int (iI low), .int (iI high), .ref srA, .ref frA, .ref toA, .ref hoA, .ref keA, .int (iI nto), .int (iI spo), .int (iI mos)], aI t zA 646 z, aI t spA 646 sp, aI t svA 3876 sv_4, aI t soA 1292 so, aZ t ikA 2 ik, aI t txA 60 tx, aI t viA 120 vi, aI t srA 120 sr, aI t frA 122 fr, aI t toA 122 to, aI t hoA 31 ho, aI t keA 31 ke]) (pmI [0, 1, 2, 3, 4, 5, 6, 7, 8, 9, 10, 11, 12] 13 rfl (by decide +kernel) rfl) ?_
      refine V_aload_n hc dX5_add_37 0 rfl ?_
      refine V_iconst hc dX5_add_38 ?_
      refine V_iload_n hc dX5_add_39 1 rfl ?_
      refine V_callVI (As := [.int (iI 0), .int (iI x1)]) hc (wc := [oB hM 5 [.ref zA, .ref spA, .ref svA, .int (iI nsv_4), .ref soA, .ref ikA, .ref txA, .int (iI len), .int (iI thr_3), .int (iI nvi), .ref viA, .int (iI low), .int (iI high), .ref srA, .ref frA, .ref toA, .ref hoA, .ref keA, .int (iI nto), .int (iI spo), .int (iI mos)], aI t zA 646 z, aI t spA 646 sp, aI t svA 3876 sv_4, aI t soA 1292 so, aZ t ikA 2 ik, aI t txA 60 tx, aI t viA 120 vi, aI t srA 120 sr, aI t frA 122 fr, aI t toA 122 to, aI t hoA 31 ho, aI t keA 31 ke]) (wr := []) (pmI [0, 1, 2, 3, 4, 5, 6, 7, 8, 9, 10, 11, 12] 13 rfl (by decide +kernel) rfl) rfl rfl (met_X5_isPresent l D t hM zA spA svA soA ikA txA viA srA frA toA hoA keA nsv_4 len thr_3 nvi low high nto spo mos z sp sv_4 so ik tx vi sr fr to ho ke 0 x1 _ hv) rfl gX5_add_X5_isPresent rfl ⟨rfl, rfl⟩ ok_X5_isPresent (by decide) (Nat.le_of_ble_eq_true rfl) dX5_add_40 (by decide) (fun r_5 _ hv => ?_)
      try dsimp only at hv
      refine V_perm (ws1 := [oB hM 5 [.ref zA, .ref spA, .ref svA, .int (iI nsv_4), .ref soA, .ref ikA, .ref txA, .int (iI len), .int (iI thr_3), .int (iI nvi), .ref viA, .int (iI low), .int (iI high), .ref srA, .ref frA, .ref toA, .ref hoA, .ref keA, .int (iI nto), .int (iI spo), .int (iI mos)], aI t zA 646 z, aI t spA 646 sp, aI t svA 3876 sv_4, aI t soA 1292 so, aZ t ikA 2 ik, aI t txA 60 tx, aI t viA 120 vi, aI t srA 120 sr, aI t frA 122 fr, aI t toA 122 to, aI t hoA 31 ho, aI t keA 31 ke]) (pmI [0, 1, 2, 3, 4, 5, 6, 7, 8, 9, 10, 11, 12] 13 rfl (by decide +kernel) rfl) ?_
      refine V_if_eq (tgt := 50) hc dX5_add_43 (by decide) hv (fun hv => ?_) (fun hv => ?_)
      · refine V_iconst hc dX5_add_50 ?_
        refine V_istore_n hc dX5_add_51 [(2, .int (iI 1)), (0, .ref hM), (1, .int (iI x1))] (by decide) rfl ?_
        refine V_aload_n hc dX5_add_52 1 rfl ?_
        refine V_iconst hc dX5_add_53 ?_
        refine V_iload_n hc dX5_add_54 2 rfl ?_
        refine V_callVI (As := [.int (iI 0), .int (iI x1)]) hc (wc := [oB hM 5 [.ref zA, .ref spA, .ref svA, .int (iI nsv_4), .ref soA, .ref ikA, .ref txA, .int (iI len), .int (iI thr_3), .int (iI nvi), .ref viA, .int (iI low), .int (iI high), .ref srA, .ref frA, .ref toA, .ref hoA, .ref keA, .int (iI nto), .int (iI spo), .int (iI mos)], aI t zA 646 z, aI t spA 646 sp, aI t svA 3876 sv_4, aI t soA 1292 so, aZ t ikA 2 ik, aI t txA 60 tx, aI t viA 120 vi, aI t srA 120 sr, aI t frA 122 fr, aI t toA 122 to, aI t hoA 31 ho, aI t keA 31 ke]) (wr := []) (pmI [0, 1, 2, 3, 4, 5, 6, 7, 8, 9, 10, 11, 12] 13 rfl (by decide +kernel) rfl) rfl rfl (met_X5_act l D t hM zA spA svA soA ikA txA viA srA frA toA hoA keA nsv_4 len thr_3 nvi low high nto spo mos z sp sv_4 so ik tx vi sr fr to ho ke 0 x1 _ hv) rfl gX5_add_X5_act rfl ⟨rfl, rfl⟩ ok_X5_act (by decide) (Nat.le_of_ble_eq_true rfl) dX5_add_55 (by decide) (fun r_6 u9 hv => ?_)
        obtain ⟨nvi_6, low_6, high_6, z_6, vi_6, sr_6, fr_6, to_6⟩ := u9
        try dsimp only at hv
        refine V_perm (ws1 := [oB hM 5 [.ref zA, .ref spA, .ref svA, .int (iI nsv_4), .ref soA, .ref ikA, .ref txA, .int (iI len), .int (iI thr_3), .int (iI nvi_6), .ref viA, .int (iI low_6), .int (iI high_6), .ref srA, .ref frA, .ref toA, .ref hoA, .ref keA, .int (iI nto), .int (iI spo), .int (iI mos)], aI t zA 646 z_6, aI t spA 646 sp, aI t svA 3876 sv_4, aI t soA 1292 so, aZ t ikA 2 ik, aI t txA 60 tx, aI t viA 120 vi_6, aI t srA 120 sr_6, aI t frA 122 fr_6, aI t toA 122 to_6, aI t hoA 31 ho, aI t keA 31 ke]) (pmI [0, 1, 2, 3, 4, 5, 6, 7, 8, 9, 10, 11, 12] 13 rfl (by decide +kernel) rfl) ?_
        refine V_pop hc dX5_add_58 rfl ?_
        refine V_iload_n hc dX5_add_59 0 rfl ?_
        exact V_iret hc hr (nsv_4, thr_3, nvi_6, low_6, high_6, z_6, sv_4, vi_6, sr_6, fr_6, to_6) hv rfl dX5_add_60
      · refine V_iconst hc dX5_add_46 ?_
        refine V_goto (tgt := 51) hc dX5_add_47 (by decide) ?_
        refine V_istore_n hc dX5_add_51 [(2, .int (iI 0)), (0, .ref hM), (1, .int (iI x1))] (by decide) rfl ?_
        refine V_aload_n hc dX5_add_52 1 rfl ?_
        refine V_iconst hc dX5_add_53 ?_
        refine V_iload_n hc dX5_add_54 2 rfl ?_
        refine V_callVI (As := [.int (iI 0), .int (iI x1)]) hc (wc := [oB hM 5 [.ref zA, .ref spA, .ref svA, .int (iI nsv_4), .ref soA, .ref ikA, .ref txA, .int (iI len), .int (iI thr_3), .int (iI nvi), .ref viA, .int (iI low), .int (iI high), .ref srA, .ref frA, .ref toA, .ref hoA, .ref keA, .int (iI nto), .int (iI spo), .int (iI mos)], aI t zA 646 z, aI t spA 646 sp, aI t svA 3876 sv_4, aI t soA 1292 so, aZ t ikA 2 ik, aI t txA 60 tx, aI t viA 120 vi, aI t srA 120 sr, aI t frA 122 fr, aI t toA 122 to, aI t hoA 31 ho, aI t keA 31 ke]) (wr := []) (pmI [0, 1, 2, 3, 4, 5, 6, 7, 8, 9, 10, 11, 12] 13 rfl (by decide +kernel) rfl) rfl rfl (met_X5_act l D t hM zA spA svA soA ikA txA viA srA frA toA hoA keA nsv_4 len thr_3 nvi low high nto spo mos z sp sv_4 so ik tx vi sr fr to ho ke 0 x1 _ hv) rfl gX5_add_X5_act rfl ⟨rfl, rfl⟩ ok_X5_act (by decide) (Nat.le_of_ble_eq_true rfl) dX5_add_55 (by decide) (fun r_7 u9 hv => ?_)
        obtain ⟨nvi_7, low_7, high_7, z_7, vi_7, sr_7, fr_7, to_7⟩ := u9
        try dsimp only at hv
        refine V_perm (ws1 := [oB hM 5 [.ref zA, .ref spA, .ref svA, .int (iI nsv_4), .ref soA, .ref ikA, .ref txA, .int (iI len), .int (iI thr_3), .int (iI nvi_7), .ref viA, .int (iI low_7), .int (iI high_7), .ref srA, .ref frA, .ref toA, .ref hoA, .ref keA, .int (iI nto), .int (iI spo), .int (iI mos)], aI t zA 646 z_7, aI t spA 646 sp, aI t svA 3876 sv_4, aI t soA 1292 so, aZ t ikA 2 ik, aI t txA 60 tx, aI t viA 120 vi_7, aI t srA 120 sr_7, aI t frA 122 fr_7, aI t toA 122 to_7, aI t hoA 31 ho, aI t keA 31 ke]) (pmI [0, 1, 2, 3, 4, 5, 6, 7, 8, 9, 10, 11, 12] 13 rfl (by decide +kernel) rfl) ?_
        refine V_pop hc dX5_add_58 rfl ?_
        refine V_iload_n hc dX5_add_59 0 rfl ?_
        exact V_iret hc hr (nsv_4, thr_3, nvi_7, low_7, high_7, z_7, sv_4, vi_7, sr_7, fr_7, to_7) hv rfl dX5_add_60
    · refine V_iconst hc dX5_add_31 ?_
      exact V_iret hc hr (nsv, thr_3, nvi, low, high, z, sv, vi, sr, fr, to) hv rfl dX5_add_32
  refine V_lv [0, 1] [(0, .ref hM), (1, .int (iI x1))] rfl ?_
  unfold wp_X5_add at hv
  refine V_aload_n hc dX5_add_0 0 rfl ?_
  refine V_iload_n hc dX5_add_1 1 rfl ?_
  refine V_callSI (As := [.int (iI x1)]) hc (wc := []) (wr := [oB hM 5 [.ref zA, .ref spA, .ref svA, .int (iI nsv), .ref soA, .ref ikA, .ref txA, .int (iI len), .int (iI thr), .int (iI nvi), .ref viA, .int (iI low), .int (iI high), .ref srA, .ref frA, .ref toA, .ref hoA, .ref keA, .int (iI nto), .int (iI spo), .int (iI mos)], aI t zA 646 z, aI t spA 646 sp, aI t svA 3876 sv, aI t soA 1292 so, aZ t ikA 2 ik, aI t txA 60 tx, aI t viA 120 vi, aI t srA 120 sr, aI t frA 122 fr, aI t toA 122 to, aI t hoA 31 ho, aI t keA 31 ke]) (pmI [0, 1, 2, 3, 4, 5, 6, 7, 8, 9, 10, 11, 12] 13 rfl (by decide +kernel) rfl) (met_X5_isKey l D t x1 _ hv) rfl gX5_add_X5_isKey rfl ⟨rfl, rfl⟩ ok_X5_isKey (by decide) (Nat.le_of_ble_eq_true rfl) dX5_add_2 (by decide) (fun r_1 _ hv => ?_)
  try dsimp only at hv
  refine V_perm (ws1 := [oB hM 5 [.ref zA, .ref spA, .ref svA, .int (iI nsv), .ref soA, .ref ikA, .ref txA, .int (iI len), .int (iI thr), .int (iI nvi), .ref viA, .int (iI low), .int (iI high), .ref srA, .ref frA, .ref toA, .ref hoA, .ref keA, .int (iI nto), .int (iI spo), .int (iI mos)], aI t zA 646 z, aI t spA 646 sp, aI t svA 3876 sv, aI t soA 1292 so, aZ t ikA 2 ik, aI t txA 60 tx, aI t viA 120 vi, aI t srA 120 sr, aI t frA 122 fr, aI t toA 122 to, aI t hoA 31 ho, aI t keA 31 ke]) (pmI [0, 1, 2, 3, 4, 5, 6, 7, 8, 9, 10, 11, 12] 13 rfl (by decide +kernel) rfl) ?_
  refine V_if_ne (tgt := 12) hc dX5_add_5 (by decide) hv (fun hv => ?_) (fun hv => ?_)
  · refine V_aload_n hc dX5_add_12 0 rfl ?_
    refine V_iload_n hc dX5_add_13 1 rfl ?_
    refine V_callVI (As := [.int (iI x1)]) hc (wc := [oB hM 5 [.ref zA, .ref spA, .ref svA, .int (iI nsv), .ref soA, .ref ikA, .ref txA, .int (iI len), .int (iI thr), .int (iI nvi), .ref viA, .int (iI low), .int (iI high), .ref srA, .ref frA, .ref toA, .ref hoA, .ref keA, .int (iI nto), .int (iI spo), .int (iI mos)], aI t zA 646 z, aI t spA 646 sp, aI t svA 3876 sv, aI t soA 1292 so, aZ t ikA 2 ik, aI t txA 60 tx, aI t viA 120 vi, aI t srA 120 sr, aI t frA 122 fr, aI t toA 122 to, aI t hoA 31 ho, aI t keA 31 ke]) (wr := []) (pmI [0, 1, 2, 3, 4, 5, 6, 7, 8, 9, 10, 11, 12] 13 rfl (by decide +kernel) rfl) rfl rfl (met_X5_hasRoom l D t hM zA spA svA soA ikA txA viA srA frA toA hoA keA nsv len thr nvi low high nto spo mos z sp sv so ik tx vi sr fr to ho ke x1 _ hv) rfl gX5_add_X5_hasRoom rfl ⟨rfl, rfl⟩ ok_X5_hasRoom (by decide) (Nat.le_of_ble_eq_true rfl) dX5_add_14 (by decide) (fun r_2 _ hv => ?_)
    try dsimp only at hv
    refine V_perm (ws1 := [oB hM 5 [.ref zA, .ref spA, .ref svA, .int (iI nsv), .ref soA, .ref ikA, .ref txA, .int (iI len), .int (iI thr), .int (iI nvi), .ref viA, .int (iI low), .int (iI high), .ref srA, .ref frA, .ref toA, .ref hoA, .ref keA, .int (iI nto), .int (iI spo), .int (iI mos)], aI t zA 646 z, aI t spA 646 sp, aI t svA 3876 sv, aI t soA 1292 so, aZ t ikA 2 ik, aI t txA 60 tx, aI t viA 120 vi, aI t srA 120 sr, aI t frA 122 fr, aI t toA 122 to, aI t hoA 31 ho, aI t keA 31 ke]) (pmI [0, 1, 2, 3, 4, 5, 6, 7, 8, 9, 10, 11, 12] 13 rfl (by decide +kernel) rfl) ?_
    refine V_if_eq (tgt := 24) hc dX5_add_17 (by decide) hv (fun hv => ?_) (fun hv => ?_)
    · refine V_iconst hc dX5_add_24 ?_
      exact C_25 nsv thr nvi low high z sv vi sr fr to x1 2 hv
    · refine V_iconst hc dX5_add_20 ?_
      refine V_goto (tgt := 25) hc dX5_add_21 (by decide) ?_
      exact C_25 nsv thr nvi low high z sv vi sr fr to x1 0 hv
  · refine V_iconst hc dX5_add_8 ?_
    refine V_goto (tgt := 25) hc dX5_add_9 (by decide) ?_
    exact C_25 nsv thr nvi low high z sv vi sr fr to x1 1 hv
abbrev W1_X5_remove (t : Nat → ClassId) (hM : Nat) (zA : Nat) (spA : Nat) (svA : Nat) (soA : Nat) (ikA : Nat) (txA : Nat) (viA : Nat) (srA : Nat) (frA : Nat) (toA : Nat) (hoA : Nat) (keA : Nat) (len : Int) (nto : Int) (spo : Int) (mos : Int) (sp : Nat → Int) (so : Nat → Int) (ik : Nat → Int) (tx : Nat → Int) (ho : Nat → Int) (ke : Nat → Int) (u : (Int) × (Int) × (Int) × (Int) × (Int) × (Nat → Int) × (Nat → Int) × (Nat → Int) × (Nat → Int) × (Nat → Int) × (Nat → Int)) : va_W := [oB hM 5 [.ref zA, .ref spA, .ref svA, .int (iI u.1), .ref soA, .ref ikA, .ref txA, .int (iI len), .int (iI u.2.1), .int (iI u.2.2.1), .ref viA, .int (iI u.2.2.2.1), .int (iI u.2.2.2.2.1), .ref srA, .ref frA, .ref toA, .ref hoA, .ref keA, .int (iI nto), .int (iI spo), .int (iI mos)], aI t zA 646 u.2.2.2.2.2.1, aI t spA 646 sp, aI t svA 3876 u.2.2.2.2.2.2.1, aI t soA 1292 so, aZ t ikA 2 ik, aI t txA 60 tx, aI t viA 120 u.2.2.2.2.2.2.2.1, aI t srA 120 u.2.2.2.2.2.2.2.2.1, aI t frA 122 u.2.2.2.2.2.2.2.2.2.1, aI t toA 122 u.2.2.2.2.2.2.2.2.2.2, aI t hoA 31 ho, aI t keA 31 ke]
abbrev po_X5_remove (Q : Int → (Int) → (Int) → (Int) → (Int) → (Int) → (Nat → Int) → (Nat → Int) → (Nat → Int) → (Nat → Int) → (Nat → Int) → (Nat → Int) → Prop) (r : Int) (u : (Int) × (Int) × (Int) × (Int) × (Int) × (Nat → Int) × (Nat → Int) × (Nat → Int) × (Nat → Int) × (Nat → Int) × (Nat → Int)) : Prop := Q r u.1 u.2.1 u.2.2.1 u.2.2.2.1 u.2.2.2.2.1 u.2.2.2.2.2.1 u.2.2.2.2.2.2.1 u.2.2.2.2.2.2.2.1 u.2.2.2.2.2.2.2.2.1 u.2.2.2.2.2.2.2.2.2.1 u.2.2.2.2.2.2.2.2.2.2
abbrev rm_X5_remove : Room := { frames := 5, cells := 0, slots := 0, locals := 117 }
def wp_X5_remove_13 (nsv : Int) (thr : Int) (nvi : Int) (low : Int) (high : Int) (z : Nat → Int) (sv : Nat → Int) (vi : Nat → Int) (sr : Nat → Int) (fr : Nat → Int) (to : Nat → Int) (x1 : Int) (s0 : Int) (Q : Int → (Int) → (Int) → (Int) → (Int) → (Int) → (Nat → Int) → (Nat → Int) → (Nat → Int) → (Nat → Int) → (Nat → Int) → (Nat → Int) → Prop) : Prop := wp_X5_refused thr s0 (fun r_2 thr_2 => inR r_2 ∧ (r_2 = 0 → wp_X5_saveState nsv z sv (fun nsv_3 sv_3 => wp_X5_isPresent z 0 x1 (fun r_4 => inR r_4 ∧ (r_4 = 0 → wp_X5_act nvi low high z vi sr fr to 1 x1 (fun r_5 nvi_5 low_5 high_5 z_5 vi_5 sr_5 fr_5 to_5 => Q 0 nsv_3 thr_2 nvi_5 low_5 high_5 z_5 sv_3 vi_5 sr_5 fr_5 to_5)) ∧ (¬ (r_4 = 0) → wp_X5_act nvi low high z vi sr fr to 1 x1 (fun r_6 nvi_6 low_6 high_6 z_6 vi_6 sr_6 fr_6 to_6 => Q 1 nsv_3 thr_2 nvi_6 low_6 high_6 z_6 sv_3 vi_6 sr_6 fr_6 to_6))))) ∧ (¬ (r_2 = 0) → Q 0 nsv thr_2 nvi low high z sv vi sr fr to))
def wp_X5_remove (nsv : Int) (thr : Int) (nvi : Int) (low : Int) (high : Int) (z : Nat → Int) (sv : Nat → Int) (vi : Nat → Int) (sr : Nat → Int) (fr : Nat → Int) (to : Nat → Int) (x1 : Int) (Q : Int → (Int) → (Int) → (Int) → (Int) → (Int) → (Nat → Int) → (Nat → Int) → (Nat → Int) → (Nat → Int) → (Nat → Int) → (Nat → Int) → Prop) : Prop := wp_X5_isKey x1 (fun r_1 => inR r_1 ∧ (r_1 = 0 → wp_X5_remove_13 nsv thr nvi low high z sv vi sr fr to x1 1 Q) ∧ (¬ (r_1 = 0) → wp_X5_remove_13 nsv thr nvi low high z sv vi sr fr to x1 0 Q))
theorem ok_X5_remove : yX5_remove.cls = RX5 ∧ yX5_remove.cls ≠ "java/lang/invoke/MethodHandle" ∧ yX5_remove.cls ≠ "java/lang/invoke/VarHandle" ∧ (parseMethodDescriptor yX5_remove.desc).map (fun d => d.parameters.length) = some 1 := by decide +kernel
set_option maxHeartbeats 4000000 in
set_option maxRecDepth 100000 in
theorem met_X5_remove (l : Launch) (D : va_G) (t : Nat → ClassId) (hM : Nat) (zA : Nat) (spA : Nat) (svA : Nat) (soA : Nat) (ikA : Nat) (txA : Nat) (viA : Nat) (srA : Nat) (frA : Nat) (toA : Nat) (hoA : Nat) (keA : Nat) (nsv : Int) (len : Int) (thr : Int) (nvi : Int) (low : Int) (high : Int) (nto : Int) (spo : Int) (mos : Int) (z : Nat → Int) (sp : Nat → Int) (sv : Nat → Int) (so : Nat → Int) (ik : Nat → Int) (tx : Nat → Int) (vi : Nat → Int) (sr : Nat → Int) (fr : Nat → Int) (to : Nat → Int) (ho : Nat → Int) (ke : Nat → Int) (x1 : Int) (Q : Int → (Int) → (Int) → (Int) → (Int) → (Int) → (Nat → Int) → (Nat → Int) → (Nat → Int) → (Nat → Int) → (Nat → Int) → (Nat → Int) → Prop) (hv : wp_X5_remove nsv thr nvi low high z sv vi sr fr to x1 Q) : MI l D t yX5_remove wsX5_remove rm_X5_remove [.ref hM, .int (iI x1)] [oB hM 5 [.ref zA, .ref spA, .ref svA, .int (iI nsv), .ref soA, .ref ikA, .ref txA, .int (iI len), .int (iI thr), .int (iI nvi), .ref viA, .int (iI low), .int (iI high), .ref srA, .ref frA, .ref toA, .ref hoA, .ref keA, .int (iI nto), .int (iI spo), .int (iI mos)], aI t zA 646 z, aI t spA 646 sp, aI t svA 3876 sv, aI t soA 1292 so, aZ t ikA 2 ik, aI t txA 60 tx, aI t viA 120 vi, aI t srA 120 sr, aI t frA 122 fr, aI t toA 122 to, aI t hoA 31 ho, aI t keA 31 ke] (W1_X5_remove t hM zA spA svA soA ikA txA viA srA frA toA hoA keA len nto spo mos sp so ik tx ho ke) (po_X5_remove Q) 0 0 := by
  refine M_ofi (cc := cX5_remove) (nL := 3) (by decide) rfl (Nat.le_of_ble_eq_true rfl) ?_
  intro p e s m args below meth c A hc hr
  have C_13 : ∀ (nsv : Int) (thr : Int) (nvi : Int) (low : Int) (high : Int) (z : Nat → Int) (sv : Nat → Int) (vi : Nat → Int) (sr : Nat → Int) (fr : Nat → Int) (to : Nat → Int) (x1 : Int) (s0 : Int), wp_X5_remove_13 nsv thr nvi low high z sv vi sr fr to x1 s0 Q → V p l e rm_X5_remove s m args below meth c D A 3 0 0 (MQ below (QI D A (W1_X5_remove t hM zA spA svA soA ikA txA viA srA frA toA hoA keA len nto spo mos sp so ik tx ho ke) (po_X5_remove Q)) args s 0 0 A) 13 [(0, .ref hM), (1, .int (iI x1))] [.int (iI s0), .ref hM] [oB hM 5 [.ref zA, .ref spA, .ref svA, .int (iI nsv), .ref soA, .ref ikA, .ref txA, .int (iI len), .int (iI thr), .int (iI nvi), .ref viA, .int (iI low), .int (iI high), .ref srA, .ref frA, .ref toA, .ref hoA, .ref keA, .int (iI nto), .int (iI spo), .int (iI mos)], aI t zA 646 z, aI t spA 646 sp, aI t svA 3876 sv, aI t soA 1292 so, aZ t ikA 2 ik, aI t txA 60 tx, aI t viA 120 vi, aI t srA 120 sr, aI t frA 122 fr, aI t toA 122 to, aI t hoA 31 ho, aI t keA 31 ke] := by
    intro nsv thr nvi low high z sv vi sr fr to x1 s0 hv
    unfold wp_X5_remove_13 at hv
    refine V_callVI (As := [.int (iI s0)]) hc (wc := [oB hM 5 [.ref zA, .ref spA, .ref svA, .int (iI nsv), .ref soA, .ref ikA, .ref txA, .int (iI len), .int (iI thr), .int (iI nvi), .ref viA, .int (iI low), .int (iI high), .ref srA, .ref frA, .ref toA, .ref hoA, .ref keA, .int (iI nto), .int (iI spo), .int (iI mos)], aI t zA 646 z, aI t spA 646 sp, aI t svA 3876 sv, aI t soA 1292 so, aZ t ikA 2 ik, aI t txA 60 tx, aI t viA 120 vi, aI t srA 120 sr, aI t frA 122 fr, aI t toA 122 to, aI t hoA 31 ho, aI t keA 31 ke]) (wr := []) (pmI [0, 1, 2, 3, 4, 5, 6, 7, 8, 9, 10, 11, 12] 13 rfl (by decide +kernel) rfl) rfl rfl (met_X5_refused l D t hM zA spA svA soA ikA txA viA srA frA toA hoA keA nsv len thr nvi low high nto spo mos z sp sv so ik tx vi sr fr to ho ke s0 _ hv) rfl gX5_remove_X5_refused rfl ⟨rfl, rfl⟩ ok_X5_refused (by decide) (Nat.le_of_ble_eq_true rfl) dX5_remove_13 (by decide) (fun r_2 u9 hv => ?_)
    obtain ⟨thr_2, h9⟩ : ∃ z, z = u9 := ⟨_, rfl⟩
    subst h9
    try dsimp only at hv
    refine V_perm (ws1 := [oB hM 5 [.ref zA, .ref spA, .ref svA, .int (iI nsv), .ref soA, .ref ikA, .ref txA, .int (iI len), .int (iI thr_2), .int (iI nvi), .ref viA, .int (iI low), .int (iI high), .ref srA, .ref frA, .ref toA, .ref hoA, .ref keA, .int (iI nto), .int (iI spo), .int (iI mos)], aI t zA 646 z, aI t spA 646 sp, aI t svA 3876 sv, aI t soA 1292 so, aZ t ikA 2 ik, aI t txA 60 tx, aI t viA 120 vi, aI t srA 120 sr, aI t frA 122 fr, aI t toA 122 to, aI t hoA 31 ho, aI t keA 31 ke]) (pmI [0, 1, 2, 3, 4, 5, 6, 7, 8, 9, 10, 11, 12] 13 rfl (by decide +kernel) rfl) ?_
    refine V_if_eq (tgt := 21) hc dX5_remove_16 (by decide) hv (fun hv => ?_) (fun hv => ?_)
    · refine V_aload_n hc dX5_remove_21 0 rfl ?_
      refine V_callVV (As := []) hc (wc := [oB hM 5 [.ref zA, .ref spA, .ref svA, .int (iI nsv), .ref soA, .ref ikA, .ref txA, .int (iI len), .int (iI thr_2), .int (iI nvi), .ref viA, .int (iI low), .int (iI high), .ref srA, .ref frA, .ref toA, .ref hoA, .ref keA, .int (iI nto), .int (iI spo), .int (iI mos)], aI t zA 646 z, aI t spA 646 sp, aI t svA 3876 sv, aI t soA 1292 so, aZ t ikA 2 ik, aI t txA 60 tx, aI t viA 120 vi, aI t srA 120 sr, aI t frA 122 fr, aI t toA 122 to, aI t hoA 31 ho, aI t keA 31 ke]) (wr := []) (pmI [0, 1, 2, 3, 4, 5, 6, 7, 8, 9, 10, 11, 12] 13 rfl (by decide +kernel) rfl) rfl rfl (met_X5_saveState l D t hM zA spA svA soA ikA txA viA srA frA toA hoA keA nsv len thr_2 nvi low high nto spo mos z sp sv so ik tx vi sr fr to ho ke _ hv) rfl gX5_remove_X5_saveState rfl ⟨rfl, rfl⟩ ok_X5_saveState (by decide) (Nat.le_of_ble_eq_true rfl) dX5_remove_22 (by decide) (fun u9 hv => ?_)
      obtain ⟨nsv_3, sv_3⟩ := u9
      try dsimp only at hv
      refine V_perm (ws1 := [oB hM 5 [.ref zA, .ref spA, .ref svA, .int (iI nsv_3), .ref soA, .ref ikA, .ref txA, .int (iI len), .int (iI thr_2), .int (iI nvi), .ref viA, .int (iI low), .int (iI high), .ref srA, .ref frA, .ref toA, .ref hoA, .ref keA, .int (iI nto), .int (iI spo), .int (iI mos)], aI t zA 646 z, aI t spA 646 sp, aI t svA 3876 sv_3, aI t soA 1292 so, aZ t ikA 2 ik, aI t txA 60 tx, aI t viA 120 vi, aI t srA 120 sr, aI t frA 122 fr, aI t toA 122 to, aI t hoA 31 ho, aI t keA 31 ke]) (pmI [0, 1, 2, 3, 4, 5, 6, 7, 8, 9, 10, 11, 12] 13 rfl (by decide +kernel) rfl) ?_
      refine V_aload_n hc dX5_remove_25 0 rfl ?_
      refine V_iconst hc dX5_remove_26 ?_
      refine V_iload_n hc dX5_remove_27 1 rfl ?_
      refine V_callVI (As := [.int (iI 0), .int (iI x1)]) hc (wc := [oB hM 5 [.ref zA, .ref spA, .ref svA, .int (iI nsv_3), .ref soA, .ref ikA, .ref txA, .int (iI len), .int (iI thr_2), .int (iI nvi), .ref viA, .int (iI low), .int (iI high), .ref srA, .ref frA, .ref toA, .ref hoA, .ref keA, .int (iI nto), .int (iI spo), .int (iI mos)], aI t zA 646 z, aI t spA 646 sp, aI t svA 3876 sv_3, aI t soA 1292 so, aZ t ikA 2 ik, aI t txA 60 tx, aI t viA 120 vi, aI t srA 120 sr, aI t frA 122 fr, aI t toA 122 to, aI t hoA 31 ho, aI t keA 31 ke]) (wr := []) (pmI [0, 1, 2, 3, 4, 5, 6, 7, 8, 9, 10, 11, 12] 13 rfl (by decide +kernel) rfl) rfl rfl (met_X5_isPresent l D t hM zA spA svA soA ikA txA viA srA frA toA hoA keA nsv_3 len thr_2 nvi low high nto spo mos z sp sv_3 so ik tx vi sr fr to ho ke 0 x1 _ hv) rfl gX5_remove_X5_isPresent rfl ⟨rfl, rfl⟩ ok_X5_isPresent (by decide) (Nat.le_of_ble_eq_true rfl) dX5_remove_28 (by decide) (fun r_4 _ hv => ?_)
      try dsimp only at hv
      refine V_perm (ws1 := [oB hM 5 [.ref zA, .ref spA, .ref svA, .int (iI nsv_3), .ref soA, .ref ikA, .ref txA, .int (iI len), .int (iI thr_2), .int (iI nvi), .ref viA, .int (iI low), .int (iI high), .ref srA, .ref frA, .ref toA, .ref hoA, .ref keA, .int (iI nto), .int (iI spo), .int (iI mos)], aI t zA 646 z, aI t spA 646 sp, aI t svA 3876 sv_3, aI t soA 1292 so, aZ t ikA 2 ik, aI t txA 60 tx, aI t viA 120 vi, aI t srA 120 sr, aI t frA 122 fr, aI t toA 122 to, aI t hoA 31 ho, aI t keA 31 ke]) (pmI [0, 1, 2, 3, 4, 5, 6, 7, 8, 9, 10, 11, 12] 13 rfl (by decide +kernel) rfl) ?_
      refine V_if_eq (tgt := 38) hc dX5_remove_31 (by decide) hv (fun hv => ?_) (fun hv => ?_)
      · refine V_iconst hc dX5_remove_38 ?_
        refine V_istore_n hc dX5_remove_39 [(2, .int (iI 0)), (0, .ref hM), (1, .int (iI x1))] (by decide) rfl ?_
        refine V_aload_n hc dX5_remove_40 1 rfl ?_
        refine V_iconst hc dX5_remove_41 ?_
        refine V_iload_n hc dX5_remove_42 2 rfl ?_
        refine V_callVI (As := [.int (iI 1), .int (iI x1)]) hc (wc := [oB hM 5 [.ref zA, .ref spA, .ref svA, .int (iI nsv_3), .ref soA, .ref ikA, .ref txA, .int (iI len), .int (iI thr_2), .int (iI nvi), .ref viA, .int (iI low), .int (iI high), .ref srA, .ref frA, .ref toA, .ref hoA, .ref keA, .int (iI nto), .int (iI spo), .int (iI mos)], aI t zA 646 z, aI t spA 646 sp, aI t svA 3876 sv_3, aI t soA 1292 so, aZ t ikA 2 ik, aI t txA 60 tx, aI t viA 120 vi, aI t srA 120 sr, aI t frA 122 fr, aI t toA 122 to, aI t hoA 31 ho, aI t keA 31 ke]) (wr := []) (pmI [0, 1, 2, 3, 4, 5, 6, 7, 8, 9, 10, 11, 12] 13 rfl (by decide +kernel) rfl) rfl rfl (met_X5_act l D t hM zA spA svA soA ikA txA viA srA frA toA hoA keA nsv_3 len thr_2 nvi low high nto spo mos z sp sv_3 so ik tx vi sr fr to ho ke 1 x1 _ hv) rfl gX5_remove_X5_act rfl ⟨rfl, rfl⟩ ok_X5_act (by decide) (Nat.le_of_ble_eq_true rfl) dX5_remove_43 (by decide) (fun r_5 u9 hv => ?_)
        obtain ⟨nvi_5, low_5, high_5, z_5, vi_5, sr_5, fr_5, to_5⟩ := u9
        try dsimp only at hv
        refine V_perm (ws1 := [oB hM 5 [.ref zA, .ref spA, .ref svA, .int (iI nsv_3), .ref soA, .ref ikA, .ref txA, .int (iI len), .int (iI thr_2), .int (iI nvi_5), .ref viA, .int (iI low_5), .int (iI high_5), .ref srA, .ref frA, .ref toA, .ref hoA, .ref keA, .int (iI nto), .int (iI spo), .int (iI mos)], aI t zA 646 z_5, aI t spA 646 sp, aI t svA 3876 sv_3, aI t soA 1292 so, aZ t ikA 2 ik, aI t txA 60 tx, aI t viA 120 vi_5, aI t srA 120 sr_5, aI t frA 122 fr_5, aI t toA 122 to_5, aI t hoA 31 ho, aI t keA 31 ke]) (pmI [0, 1, 2, 3, 4, 5, 6, 7, 8, 9, 10, 11, 12] 13 rfl (by decide +kernel) rfl) ?_
        refine V_pop hc dX5_remove_46 rfl ?_
        refine V_iload_n hc dX5_remove_47 0 rfl ?_
        exact V_iret hc hr (nsv_3, thr_2, nvi_5, low_5, high_5, z_5, sv_3, vi_5, sr_5, fr_5, to_5) hv rfl dX5_remove_48
      · refine V_iconst hc dX5_remove_34 ?_
        refine V_goto (tgt := 39) hc dX5_remove_35 (by decide) ?_
        refine V_istore_n hc dX5_remove_39 [(2, .int (iI 1)), (0, .ref hM), (1, .int (iI x1))] (by decide) rfl ?_
        refine V_aload_n hc dX5_remove_40 1 rfl ?_
        refine V_iconst hc dX5_remove_41 ?_
        refine V_iload_n hc dX5_remove_42 2 rfl ?_
        refine V_callVI (As := [.int (iI 1), .int (iI x1)]) hc (wc := [oB hM 5 [.ref zA, .ref spA, .ref svA, .int (iI nsv_3), .ref soA, .ref ikA, .ref txA, .int (iI len), .int (iI thr_2), .int (iI nvi), .ref viA, .int (iI low), .int (iI high), .ref srA, .ref frA, .ref toA, .ref hoA, .ref keA, .int (iI nto), .int (iI spo), .int (iI mos)], aI t zA 646 z, aI t spA 646 sp, aI t svA 3876 sv_3, aI t soA 1292 so, aZ t ikA 2 ik, aI t txA 60 tx, aI t viA 120 vi, aI t srA 120 sr, aI t frA 122 fr, aI t toA 122 to, aI t hoA 31 ho, aI t keA 31 ke]) (wr := []) (pmI [0, 1, 2, 3, 4, 5, 6, 7, 8, 9, 10, 11, 12] 13 rfl (by decide +kernel) rfl) rfl rfl (met_X5_act l D t hM zA spA svA soA ikA txA viA srA frA toA hoA keA nsv_3 len thr_2 nvi low high nto spo mos z sp sv_3 so ik tx vi sr fr to ho ke 1 x1 _ hv) rfl gX5_remove_X5_act rfl ⟨rfl, rfl⟩ ok_X5_act (by decide) (Nat.le_of_ble_eq_true rfl) dX5_remove_43 (by decide) (fun r_6 u9 hv => ?_)
        obtain ⟨nvi_6, low_6, high_6, z_6, vi_6, sr_6, fr_6, to_6⟩ := u9
        try dsimp only at hv
        refine V_perm (ws1 := [oB hM 5 [.ref zA, .ref spA, .ref svA, .int (iI nsv_3), .ref soA, .ref ikA, .ref txA, .int (iI len), .int (iI thr_2), .int (iI nvi_6), .ref viA, .int (iI low_6), .int (iI high_6), .ref srA, .ref frA, .ref toA, .ref hoA, .ref keA, .int (iI nto), .int (iI spo), .int (iI mos)], aI t zA 646 z_6, aI t spA 646 sp, aI t svA 3876 sv_3, aI t soA 1292 so, aZ t ikA 2 ik, aI t txA 60 tx, aI t viA 120 vi_6, aI t srA 120 sr_6, aI t frA 122 fr_6, aI t toA 122 to_6, aI t hoA 31 ho, aI t keA 31 ke]) (pmI [0, 1, 2, 3, 4, 5, 6, 7, 8, 9, 10, 11, 12] 13 rfl (by decide +kernel) rfl) ?_
        refine V_pop hc dX5_remove_46 rfl ?_
        refine V_iload_n hc dX5_remove_47 0 rfl ?_
        exact V_iret hc hr (nsv_3, thr_2, nvi_6, low_6, high_6, z_6, sv_3, vi_6, sr_6, fr_6, to_6) hv rfl dX5_remove_48
    · refine V_iconst hc dX5_remove_19 ?_
      exact V_iret hc hr (nsv, thr_2, nvi, low, high, z, sv, vi, sr, fr, to) hv rfl dX5_remove_20
  refine V_lv [0, 1] [(0, .ref hM), (1, .int (iI x1))] rfl ?_
  unfold wp_X5_remove at hv
  refine V_aload_n hc dX5_remove_0 0 rfl ?_
  refine V_iload_n hc dX5_remove_1 1 rfl ?_
  refine V_callSI (As := [.int (iI x1)]) hc (wc := []) (wr := [oB hM 5 [.ref zA, .ref spA, .ref svA, .int (iI nsv), .ref soA, .ref ikA, .ref txA, .int (iI len), .int (iI thr), .int (iI nvi), .ref viA, .int (iI low), .int (iI high), .ref srA, .ref frA, .ref toA, .ref hoA, .ref keA, .int (iI nto), .int (iI spo), .int (iI mos)], aI t zA 646 z, aI t spA 646 sp, aI t svA 3876 sv, aI t soA 1292 so, aZ t ikA 2 ik, aI t txA 60 tx, aI t viA 120 vi, aI t srA 120 sr, aI t frA 122 fr, aI t toA 122 to, aI t hoA 31 ho, aI t keA 31 ke]) (pmI [0, 1, 2, 3, 4, 5, 6, 7, 8, 9, 10, 11, 12] 13 rfl (by decide +kernel) rfl) (met_X5_isKey l D t x1 _ hv) rfl gX5_remove_X5_isKey rfl ⟨rfl, rfl⟩ ok_X5_isKey (by decide) (Nat.le_of_ble_eq_true rfl) dX5_remove_2 (by decide) (fun r_1 _ hv => ?_)
  try dsimp only at hv
  refine V_perm (ws1 := [oB hM 5 [.ref zA, .ref spA, .ref svA, .int (iI nsv), .ref soA, .ref ikA, .ref txA, .int (iI len), .int (iI thr), .int (iI nvi), .ref viA, .int (iI low), .int (iI high), .ref srA, .ref frA, .ref toA, .ref hoA, .ref keA, .int (iI nto), .int (iI spo), .int (iI mos)], aI t zA 646 z, aI t spA 646 sp, aI t svA 3876 sv, aI t soA 1292 so, aZ t ikA 2 ik, aI t txA 60 tx, aI t viA 120 vi, aI t srA 120 sr, aI t frA 122 fr, aI t toA 122 to, aI t hoA 31 ho, aI t keA 31 ke]) (pmI [0, 1, 2, 3, 4, 5, 6, 7, 8, 9, 10, 11, 12] 13 rfl (by decide +kernel) rfl) ?_
  refine V_if_eq (tgt := 12) hc dX5_remove_5 (by decide) hv (fun hv => ?_) (fun hv => ?_)
  · refine V_iconst hc dX5_remove_12 ?_
    exact C_13 nsv thr nvi low high z sv vi sr fr to x1 1 hv
  · refine V_iconst hc dX5_remove_8 ?_
    refine V_goto (tgt := 13) hc dX5_remove_9 (by decide) ?_
    exact C_13 nsv thr nvi low high z sv vi sr fr to x1 0 hv
abbrev W1_X5_idle (t : Nat → ClassId) (hM : Nat) (zA : Nat) (spA : Nat) (svA : Nat) (soA : Nat) (ikA : Nat) (txA : Nat) (viA : Nat) (srA : Nat) (frA : Nat) (toA : Nat) (hoA : Nat) (keA : Nat) (len : Int) (nto : Int) (spo : Int) (mos : Int) (sp : Nat → Int) (so : Nat → Int) (ik : Nat → Int) (tx : Nat → Int) (ho : Nat → Int) (ke : Nat → Int) (u : (Int) × (Int) × (Int) × (Int) × (Int) × (Nat → Int) × (Nat → Int) × (Nat → Int) × (Nat → Int) × (Nat → Int) × (Nat → Int)) : va_W := [oB hM 5 [.ref zA, .ref spA, .ref svA, .int (iI u.1), .ref soA, .ref ikA, .ref txA, .int (iI len), .int (iI u.2.1), .int (iI u.2.2.1), .ref viA, .int (iI u.2.2.2.1), .int (iI u.2.2.2.2.1), .ref srA, .ref frA, .ref toA, .ref hoA, .ref keA, .int (iI nto), .int (iI spo), .int (iI mos)], aI t zA 646 u.2.2.2.2.2.1, aI t spA 646 sp, aI t svA 3876 u.2.2.2.2.2.2.1, aI t soA 1292 so, aZ t ikA 2 ik, aI t txA 60 tx, aI t viA 120 u.2.2.2.2.2.2.2.1, aI t srA 120 u.2.2.2.2.2.2.2.2.1, aI t frA 122 u.2.2.2.2.2.2.2.2.2.1, aI t toA 122 u.2.2.2.2.2.2.2.2.2.2, aI t hoA 31 ho, aI t keA 31 ke]
abbrev po_X5_idle (Q : Int → (Int) → (Int) → (Int) → (Int) → (Int) → (Nat → Int) → (Nat → Int) → (Nat → Int) → (Nat → Int) → (Nat → Int) → (Nat → Int) → Prop) (r : Int) (u : (Int) × (Int) × (Int) × (Int) × (Int) × (Nat → Int) × (Nat → Int) × (Nat → Int) × (Nat → Int) × (Nat → Int) × (Nat → Int)) : Prop := Q r u.1 u.2.1 u.2.2.1 u.2.2.2.1 u.2.2.2.2.1 u.2.2.2.2.2.1 u.2.2.2.2.2.2.1 u.2.2.2.2.2.2.2.1 u.2.2.2.2.2.2.2.2.1 u.2.2.2.2.2.2.2.2.2.1 u.2.2.2.2.2.2.2.2.2.2
abbrev rm_X5_idle : Room := { frames := 5, cells := 0, slots := 0, locals := 117 }
def wp_X5_idle (nsv : Int) (thr : Int) (nvi : Int) (low : Int) (high : Int) (z : Nat → Int) (sv : Nat → Int) (vi : Nat → Int) (sr : Nat → Int) (fr : Nat → Int) (to : Nat → Int) (Q : Int → (Int) → (Int) → (Int) → (Int) → (Int) → (Nat → Int) → (Nat → Int) → (Nat → Int) → (Nat → Int) → (Nat → Int) → (Nat → Int) → Prop) : Prop := wp_X5_saveState nsv z sv (fun nsv_1 sv_1 => wp_X5_act nvi low high z vi sr fr to 2 0 (fun r_2 nvi_2 low_2 high_2 z_2 vi_2 sr_2 fr_2 to_2 => Q r_2 nsv_1 0 nvi_2 low_2 high_2 z_2 sv_1 vi_2 sr_2 fr_2 to_2))
theorem m_X5_idle_47 : Cond.fieldLink RX5 47 "BackgroundRebuildModel" "thrown" "I" ∈ wsX5_idle := by decide +kernel
theorem i_X5_idle_5 : ∀ w ∈ u_ws RX5 TX5 21, w ∈ wsX5_idle := by decide +kernel
theorem ok_X5_idle : yX5_idle.cls = RX5 ∧ yX5_idle.cls ≠ "java/lang/invoke/MethodHandle" ∧ yX5_idle.cls ≠ "java/lang/invoke/VarHandle" ∧ (parseMethodDescriptor yX5_idle.desc).map (fun d => d.parameters.length) = some 0 := by decide +kernel
set_option maxHeartbeats 4000000 in
set_option maxRecDepth 100000 in
theorem met_X5_idle (l : Launch) (D : va_G) (t : Nat → ClassId) (hM : Nat) (zA : Nat) (spA : Nat) (svA : Nat) (soA : Nat) (ikA : Nat) (txA : Nat) (viA : Nat) (srA : Nat) (frA : Nat) (toA : Nat) (hoA : Nat) (keA : Nat) (nsv : Int) (len : Int) (thr : Int) (nvi : Int) (low : Int) (high : Int) (nto : Int) (spo : Int) (mos : Int) (z : Nat → Int) (sp : Nat → Int) (sv : Nat → Int) (so : Nat → Int) (ik : Nat → Int) (tx : Nat → Int) (vi : Nat → Int) (sr : Nat → Int) (fr : Nat → Int) (to : Nat → Int) (ho : Nat → Int) (ke : Nat → Int) (Q : Int → (Int) → (Int) → (Int) → (Int) → (Int) → (Nat → Int) → (Nat → Int) → (Nat → Int) → (Nat → Int) → (Nat → Int) → (Nat → Int) → Prop) (hv : wp_X5_idle nsv thr nvi low high z sv vi sr fr to Q) : MI l D t yX5_idle wsX5_idle rm_X5_idle [.ref hM] [oB hM 5 [.ref zA, .ref spA, .ref svA, .int (iI nsv), .ref soA, .ref ikA, .ref txA, .int (iI len), .int (iI thr), .int (iI nvi), .ref viA, .int (iI low), .int (iI high), .ref srA, .ref frA, .ref toA, .ref hoA, .ref keA, .int (iI nto), .int (iI spo), .int (iI mos)], aI t zA 646 z, aI t spA 646 sp, aI t svA 3876 sv, aI t soA 1292 so, aZ t ikA 2 ik, aI t txA 60 tx, aI t viA 120 vi, aI t srA 120 sr, aI t frA 122 fr, aI t toA 122 to, aI t hoA 31 ho, aI t keA 31 ke] (W1_X5_idle t hM zA spA svA soA ikA txA viA srA frA toA hoA keA len nto spo mos sp so ik tx ho ke) (po_X5_idle Q) 0 0 := by
  refine M_ofi (cc := cX5_idle) (nL := 1) (by decide) rfl (Nat.le_of_ble_eq_true rfl) ?_
  intro p e s m args below meth c A hc hr
  refine V_lv [0] [(0, .ref hM)] rfl ?_
  unfold wp_X5_idle at hv
  refine V_aload_n hc dX5_idle_0 0 rfl ?_
  refine V_iconst hc dX5_idle_1 ?_
  refine V_puti (C := RX5) (T := TX5) (N := 21) hc i_X5_idle_5 0 rfl rfl 8 (by decide) m_X5_idle_47 tyX5 tyX5_ok nmX5 rfl (by decide +kernel) (Nat.le_of_ble_eq_true rfl) dX5_idle_2 [oB hM 5 [.ref zA, .ref spA, .ref svA, .int (iI nsv), .ref soA, .ref ikA, .ref txA, .int (iI len), .int (iI 0), .int (iI nvi), .ref viA, .int (iI low), .int (iI high), .ref srA, .ref frA, .ref toA, .ref hoA, .ref keA, .int (iI nto), .int (iI spo), .int (iI mos)], aI t zA 646 z, aI t spA 646 sp, aI t svA 3876 sv, aI t soA 1292 so, aZ t ikA 2 ik, aI t txA 60 tx, aI t viA 120 vi, aI t srA 120 sr, aI t frA 122 fr, aI t toA 122 to, aI t hoA 31 ho, aI t keA 31 ke] rfl ?_
  refine V_aload_n hc dX5_idle_5 0 rfl ?_
  refine V_callVV (As := []) hc (wc := [oB hM 5 [.ref zA, .ref spA, .ref svA, .int (iI nsv), .ref soA, .ref ikA, .ref txA, .int (iI len), .int (iI 0), .int (iI nvi), .ref viA, .int (iI low), .int (iI high), .ref srA, .ref frA, .ref toA, .ref hoA, .ref keA, .int (iI nto), .int (iI spo), .int (iI mos)], aI t zA 646 z, aI t spA 646 sp, aI t svA 3876 sv, aI t soA 1292 so, aZ t ikA 2 ik, aI t txA 60 tx, aI t viA 120 vi, aI t srA 120 sr, aI t frA 122 fr, aI t toA 122 to, aI t hoA 31 ho, aI t keA 31 ke]) (wr := []) (pmI [0, 1, 2, 3, 4, 5, 6, 7, 8, 9, 10, 11, 12] 13 rfl (by decide +kernel) rfl) rfl rfl (met_X5_saveState l D t hM zA spA svA soA ikA txA viA srA frA toA hoA keA nsv len 0 nvi low high nto spo mos z sp sv so ik tx vi sr fr to ho ke _ hv) rfl gX5_idle_X5_saveState rfl ⟨rfl, rfl⟩ ok_X5_saveState (by decide) (Nat.le_of_ble_eq_true rfl) dX5_idle_6 (by decide) (fun u9 hv => ?_)
  obtain ⟨nsv_1, sv_1⟩ := u9
  try dsimp only at hv
  refine V_perm (ws1 := [oB hM 5 [.ref zA, .ref spA, .ref svA, .int (iI nsv_1), .ref soA, .ref ikA, .ref txA, .int (iI len), .int (iI 0), .int (iI nvi), .ref viA, .int (iI low), .int (iI high), .ref srA, .ref frA, .ref toA, .ref hoA, .ref keA, .int (iI nto), .int (iI spo), .int (iI mos)], aI t zA 646 z, aI t spA 646 sp, aI t svA 3876 sv_1, aI t soA 1292 so, aZ t ikA 2 ik, aI t txA 60 tx, aI t viA 120 vi, aI t srA 120 sr, aI t frA 122 fr, aI t toA 122 to, aI t hoA 31 ho, aI t keA 31 ke]) (pmI [0, 1, 2, 3, 4, 5, 6, 7, 8, 9, 10, 11, 12] 13 rfl (by decide +kernel) rfl) ?_
  refine V_aload_n hc dX5_idle_9 0 rfl ?_
  refine V_iconst hc dX5_idle_10 ?_
  refine V_iconst hc dX5_idle_11 ?_
  refine V_callVI (As := [.int (iI 2), .int (iI 0)]) hc (wc := [oB hM 5 [.ref zA, .ref spA, .ref svA, .int (iI nsv_1), .ref soA, .ref ikA, .ref txA, .int (iI len), .int (iI 0), .int (iI nvi), .ref viA, .int (iI low), .int (iI high), .ref srA, .ref frA, .ref toA, .ref hoA, .ref keA, .int (iI nto), .int (iI spo), .int (iI mos)], aI t zA 646 z, aI t spA 646 sp, aI t svA 3876 sv_1, aI t soA 1292 so, aZ t ikA 2 ik, aI t txA 60 tx, aI t viA 120 vi, aI t srA 120 sr, aI t frA 122 fr, aI t toA 122 to, aI t hoA 31 ho, aI t keA 31 ke]) (wr := []) (pmI [0, 1, 2, 3, 4, 5, 6, 7, 8, 9, 10, 11, 12] 13 rfl (by decide +kernel) rfl) rfl rfl (met_X5_act l D t hM zA spA svA soA ikA txA viA srA frA toA hoA keA nsv_1 len 0 nvi low high nto spo mos z sp sv_1 so ik tx vi sr fr to ho ke 2 0 _ hv) rfl gX5_idle_X5_act rfl ⟨rfl, rfl⟩ ok_X5_act (by decide) (Nat.le_of_ble_eq_true rfl) dX5_idle_12 (by decide) (fun r_2 u9 hv => ?_)
  obtain ⟨nvi_2, low_2, high_2, z_2, vi_2, sr_2, fr_2, to_2⟩ := u9
  try dsimp only at hv
  refine V_perm (ws1 := [oB hM 5 [.ref zA, .ref spA, .ref svA, .int (iI nsv_1), .ref soA, .ref ikA, .ref txA, .int (iI len), .int (iI 0), .int (iI nvi_2), .ref viA, .int (iI low_2), .int (iI high_2), .ref srA, .ref frA, .ref toA, .ref hoA, .ref keA, .int (iI nto), .int (iI spo), .int (iI mos)], aI t zA 646 z_2, aI t spA 646 sp, aI t svA 3876 sv_1, aI t soA 1292 so, aZ t ikA 2 ik, aI t txA 60 tx, aI t viA 120 vi_2, aI t srA 120 sr_2, aI t frA 122 fr_2, aI t toA 122 to_2, aI t hoA 31 ho, aI t keA 31 ke]) (pmI [0, 1, 2, 3, 4, 5, 6, 7, 8, 9, 10, 11, 12] 13 rfl (by decide +kernel) rfl) ?_
  exact V_iret hc hr (nsv_1, 0, nvi_2, low_2, high_2, z_2, sv_1, vi_2, sr_2, fr_2, to_2) hv rfl dX5_idle_15
abbrev W1_X5_begin (t : Nat → ClassId) (hM : Nat) (zA : Nat) (spA : Nat) (svA : Nat) (soA : Nat) (ikA : Nat) (txA : Nat) (viA : Nat) (srA : Nat) (frA : Nat) (toA : Nat) (hoA : Nat) (keA : Nat) (len : Int) (nvi : Int) (low : Int) (high : Int) (nto : Int) (spo : Int) (mos : Int) (sp : Nat → Int) (so : Nat → Int) (ik : Nat → Int) (tx : Nat → Int) (vi : Nat → Int) (ho : Nat → Int) (ke : Nat → Int) (u : (Int) × (Int) × (Nat → Int) × (Nat → Int) × (Nat → Int) × (Nat → Int) × (Nat → Int)) : va_W := [oB hM 5 [.ref zA, .ref spA, .ref svA, .int (iI u.1), .ref soA, .ref ikA, .ref txA, .int (iI len), .int (iI u.2.1), .int (iI nvi), .ref viA, .int (iI low), .int (iI high), .ref srA, .ref frA, .ref toA, .ref hoA, .ref keA, .int (iI nto), .int (iI spo), .int (iI mos)], aI t zA 646 u.2.2.1, aI t spA 646 sp, aI t svA 3876 u.2.2.2.1, aI t soA 1292 so, aZ t ikA 2 ik, aI t txA 60 tx, aI t viA 120 vi, aI t srA 120 u.2.2.2.2.1, aI t frA 122 u.2.2.2.2.2.1, aI t toA 122 u.2.2.2.2.2.2, aI t hoA 31 ho, aI t keA 31 ke]
abbrev po_X5_begin (Q : Int → (Int) → (Int) → (Nat → Int) → (Nat → Int) → (Nat → Int) → (Nat → Int) → (Nat → Int) → Prop) (r : Int) (u : (Int) × (Int) × (Nat → Int) × (Nat → Int) × (Nat → Int) × (Nat → Int) × (Nat → Int)) : Prop := Q r u.1 u.2.1 u.2.2.1 u.2.2.2.1 u.2.2.2.2.1 u.2.2.2.2.2.1 u.2.2.2.2.2.2
abbrev rm_X5_begin : Room := { frames := 4, cells := 0, slots := 0, locals := 93 }
def wp_X5_begin_18 (nsv : Int) (thr : Int) (z : Nat → Int) (sv : Nat → Int) (sr : Nat → Int) (fr : Nat → Int) (to : Nat → Int) (s0 : Int) (Q : Int → (Int) → (Int) → (Nat → Int) → (Nat → Int) → (Nat → Int) → (Nat → Int) → (Nat → Int) → Prop) : Prop := wp_X5_refused thr s0 (fun r_1 thr_1 => inR r_1 ∧ (r_1 = 0 → wp_X5_saveState nsv z sv (fun nsv_2 sv_2 => wp_X5_beginNow z sr fr to (fun z_3 sr_3 fr_3 to_3 => Q (z_3 483) nsv_2 thr_1 z_3 sv_2 sr_3 fr_3 to_3))) ∧ (¬ (r_1 = 0) → Q 0 nsv thr_1 z sv sr fr to))
def wp_X5_begin (nsv : Int) (thr : Int) (z : Nat → Int) (sv : Nat → Int) (sr : Nat → Int) (fr : Nat → Int) (to : Nat → Int) (Q : Int → (Int) → (Int) → (Nat → Int) → (Nat → Int) → (Nat → Int) → (Nat → Int) → (Nat → Int) → Prop) : Prop := inR (z 482) ∧ (z 482 ≠ 1 → wp_X5_begin_18 nsv thr z sv sr fr to 0 Q) ∧ (¬ (z 482 ≠ 1) → wp_X5_begin_18 nsv thr z sv sr fr to 1 Q)
theorem m_X5_begin_7 : Cond.fieldLink RX5 7 "BackgroundRebuildModel" "z" "[I" ∈ wsX5_begin := by decide +kernel
theorem i_X5_begin_5 : ∀ w ∈ u_ws RX5 TX5 21, w ∈ wsX5_begin := by decide +kernel
theorem ok_X5_begin : yX5_begin.cls = RX5 ∧ yX5_begin.cls ≠ "java/lang/invoke/MethodHandle" ∧ yX5_begin.cls ≠ "java/lang/invoke/VarHandle" ∧ (parseMethodDescriptor yX5_begin.desc).map (fun d => d.parameters.length) = some 0 := by decide +kernel
set_option maxHeartbeats 4000000 in
set_option maxRecDepth 100000 in
theorem met_X5_begin (l : Launch) (D : va_G) (t : Nat → ClassId) (hM : Nat) (zA : Nat) (spA : Nat) (svA : Nat) (soA : Nat) (ikA : Nat) (txA : Nat) (viA : Nat) (srA : Nat) (frA : Nat) (toA : Nat) (hoA : Nat) (keA : Nat) (nsv : Int) (len : Int) (thr : Int) (nvi : Int) (low : Int) (high : Int) (nto : Int) (spo : Int) (mos : Int) (z : Nat → Int) (sp : Nat → Int) (sv : Nat → Int) (so : Nat → Int) (ik : Nat → Int) (tx : Nat → Int) (vi : Nat → Int) (sr : Nat → Int) (fr : Nat → Int) (to : Nat → Int) (ho : Nat → Int) (ke : Nat → Int) (Q : Int → (Int) → (Int) → (Nat → Int) → (Nat → Int) → (Nat → Int) → (Nat → Int) → (Nat → Int) → Prop) (hv : wp_X5_begin nsv thr z sv sr fr to Q) : MI l D t yX5_begin wsX5_begin rm_X5_begin [.ref hM] [oB hM 5 [.ref zA, .ref spA, .ref svA, .int (iI nsv), .ref soA, .ref ikA, .ref txA, .int (iI len), .int (iI thr), .int (iI nvi), .ref viA, .int (iI low), .int (iI high), .ref srA, .ref frA, .ref toA, .ref hoA, .ref keA, .int (iI nto), .int (iI spo), .int (iI mos)], aI t zA 646 z, aI t spA 646 sp, aI t svA 3876 sv, aI t soA 1292 so, aZ t ikA 2 ik, aI t txA 60 tx, aI t viA 120 vi, aI t srA 120 sr, aI t frA 122 fr, aI t toA 122 to, aI t hoA 31 ho, aI t keA 31 ke] (W1_X5_begin t hM zA spA svA soA ikA txA viA srA frA toA hoA keA len nvi low high nto spo mos sp so ik tx vi ho ke) (po_X5_begin Q) 0 0 := by
  refine M_ofi (cc := cX5_begin) (nL := 1) (by decide) rfl (Nat.le_of_ble_eq_true rfl) ?_
  intro p e s m args below meth c A hc hr
  have C_18 : ∀ (nsv : Int) (thr : Int) (z : Nat → Int) (sv : Nat → Int) (sr : Nat → Int) (fr : Nat → Int) (to : Nat → Int) (s0 : Int), wp_X5_begin_18 nsv thr z sv sr fr to s0 Q → V p l e rm_X5_begin s m args below meth c D A 1 0 0 (MQ below (QI D A (W1_X5_begin t hM zA spA svA soA ikA txA viA srA frA toA hoA keA len nvi low high nto spo mos sp so ik tx vi ho ke) (po_X5_begin Q)) args s 0 0 A) 18 [(0, .ref hM)] [.int (iI s0), .ref hM] [oB hM 5 [.ref zA, .ref spA, .ref svA, .int (iI nsv), .ref soA, .ref ikA, .ref txA, .int (iI len), .int (iI thr), .int (iI nvi), .ref viA, .int (iI low), .int (iI high), .ref srA, .ref frA, .ref toA, .ref hoA, .ref keA, .int (iI nto), .int (iI spo), .int (iI mos)], aI t zA 646 z, aI t spA 646 sp, aI t svA 3876 sv, aI t soA 1292 so, aZ t ikA 2 ik, aI t txA 60 tx, aI t viA 120 vi, aI t srA 120 sr, aI t frA 122 fr, aI t toA 122 to, aI t hoA 31 ho, aI t keA 31 ke] := by
    intro nsv thr z sv sr fr to s0 hv
    unfold wp_X5_begin_18 at hv
    refine V_callVI (As := [.int (iI s0)]) hc (wc := [oB hM 5 [.ref zA, .ref spA, .ref svA, .int (iI nsv), .ref soA, .ref ikA, .ref txA, .int (iI len), .int (iI thr), .int (iI nvi), .ref viA, .int (iI low), .int (iI high), .ref srA, .ref frA, .ref toA, .ref hoA, .ref keA, .int (iI nto), .int (iI spo), .int (iI mos)], aI t zA 646 z, aI t spA 646 sp, aI t svA 3876 sv, aI t soA 1292 so, aZ t ikA 2 ik, aI t txA 60 tx, aI t viA 120 vi, aI t srA 120 sr, aI t frA 122 fr, aI t toA 122 to, aI t hoA 31 ho, aI t keA 31 ke]) (wr := []) (pmI [0, 1, 2, 3, 4, 5, 6, 7, 8, 9, 10, 11, 12] 13 rfl (by decide +kernel) rfl) rfl rfl (met_X5_refused l D t hM zA spA svA soA ikA txA viA srA frA toA hoA keA nsv len thr nvi low high nto spo mos z sp sv so ik tx vi sr fr to ho ke s0 _ hv) rfl gX5_begin_X5_refused rfl ⟨rfl, rfl⟩ ok_X5_refused (by decide) (Nat.le_of_ble_eq_true rfl) dX5_begin_18 (by decide) (fun r_1 u9 hv => ?_)
    obtain ⟨thr_1, h9⟩ : ∃ z, z = u9 := ⟨_, rfl⟩
    subst h9
    try dsimp only at hv
    refine V_perm (ws1 := [oB hM 5 [.ref zA, .ref spA, .ref svA, .int (iI nsv), .ref soA, .ref ikA, .ref txA, .int (iI len), .int (iI thr_1), .int (iI nvi), .ref viA, .int (iI low), .int (iI high), .ref srA, .ref frA, .ref toA, .ref hoA, .ref keA, .int (iI nto), .int (iI spo), .int (iI mos)], aI t zA 646 z, aI t spA 646 sp, aI t svA 3876 sv, aI t soA 1292 so, aZ t ikA 2 ik, aI t txA 60 tx, aI t viA 120 vi, aI t srA 120 sr, aI t frA 122 fr, aI t toA 122 to, aI t hoA 31 ho, aI t keA 31 ke]) (pmI [0, 1, 2, 3, 4, 5, 6, 7, 8, 9, 10, 11, 12] 13 rfl (by decide +kernel) rfl) ?_
    refine V_if_eq (tgt := 26) hc dX5_begin_21 (by decide) hv (fun hv => ?_) (fun hv => ?_)
    · refine V_aload_n hc dX5_begin_26 0 rfl ?_
      refine V_callVV (As := []) hc (wc := [oB hM 5 [.ref zA, .ref spA, .ref svA, .int (iI nsv), .ref soA, .ref ikA, .ref txA, .int (iI len), .int (iI thr_1), .int (iI nvi), .ref viA, .int (iI low), .int (iI high), .ref srA, .ref frA, .ref toA, .ref hoA, .ref keA, .int (iI nto), .int (iI spo), .int (iI mos)], aI t zA 646 z, aI t spA 646 sp, aI t svA 3876 sv, aI t soA 1292 so, aZ t ikA 2 ik, aI t txA 60 tx, aI t viA 120 vi, aI t srA 120 sr, aI t frA 122 fr, aI t toA 122 to, aI t hoA 31 ho, aI t keA 31 ke]) (wr := []) (pmI [0, 1, 2, 3, 4, 5, 6, 7, 8, 9, 10, 11, 12] 13 rfl (by decide +kernel) rfl) rfl rfl (met_X5_saveState l D t hM zA spA svA soA ikA txA viA srA frA toA hoA keA nsv len thr_1 nvi low high nto spo mos z sp sv so ik tx vi sr fr to ho ke _ hv) rfl gX5_begin_X5_saveState rfl ⟨rfl, rfl⟩ ok_X5_saveState (by decide) (Nat.le_of_ble_eq_true rfl) dX5_begin_27 (by decide) (fun u9 hv => ?_)
      obtain ⟨nsv_2, sv_2⟩ := u9
      try dsimp only at hv
      refine V_perm (ws1 := [oB hM 5 [.ref zA, .ref spA, .ref svA, .int (iI nsv_2), .ref soA, .ref ikA, .ref txA, .int (iI len), .int (iI thr_1), .int (iI nvi), .ref viA, .int (iI low), .int (iI high), .ref srA, .ref frA, .ref toA, .ref hoA, .ref keA, .int (iI nto), .int (iI spo), .int (iI mos)], aI t zA 646 z, aI t spA 646 sp, aI t svA 3876 sv_2, aI t soA 1292 so, aZ t ikA 2 ik, aI t txA 60 tx, aI t viA 120 vi, aI t srA 120 sr, aI t frA 122 fr, aI t toA 122 to, aI t hoA 31 ho, aI t keA 31 ke]) (pmI [0, 1, 2, 3, 4, 5, 6, 7, 8, 9, 10, 11, 12] 13 rfl (by decide +kernel) rfl) ?_
      refine V_aload_n hc dX5_begin_30 0 rfl ?_
      refine V_callVV (As := []) hc (wc := [oB hM 5 [.ref zA, .ref spA, .ref svA, .int (iI nsv_2), .ref soA, .ref ikA, .ref txA, .int (iI len), .int (iI thr_1), .int (iI nvi), .ref viA, .int (iI low), .int (iI high), .ref srA, .ref frA, .ref toA, .ref hoA, .ref keA, .int (iI nto), .int (iI spo), .int (iI mos)], aI t zA 646 z, aI t spA 646 sp, aI t svA 3876 sv_2, aI t soA 1292 so, aZ t ikA 2 ik, aI t txA 60 tx, aI t viA 120 vi, aI t srA 120 sr, aI t frA 122 fr, aI t toA 122 to, aI t hoA 31 ho, aI t keA 31 ke]) (wr := []) (pmI [0, 1, 2, 3, 4, 5, 6, 7, 8, 9, 10, 11, 12] 13 rfl (by decide +kernel) rfl) rfl rfl (met_X5_beginNow l D t hM zA spA svA soA ikA txA viA srA frA toA hoA keA nsv_2 len thr_1 nvi low high nto spo mos z sp sv_2 so ik tx vi sr fr to ho ke _ hv) rfl gX5_begin_X5_beginNow rfl ⟨rfl, rfl⟩ ok_X5_beginNow (by decide) (Nat.le_of_ble_eq_true rfl) dX5_begin_31 (by decide) (fun u9 hv => ?_)
      obtain ⟨z_3, sr_3, fr_3, to_3⟩ := u9
      try dsimp only at hv
      refine V_perm (ws1 := [oB hM 5 [.ref zA, .ref spA, .ref svA, .int (iI nsv_2), .ref soA, .ref ikA, .ref txA, .int (iI len), .int (iI thr_1), .int (iI nvi), .ref viA, .int (iI low), .int (iI high), .ref srA, .ref frA, .ref toA, .ref hoA, .ref keA, .int (iI nto), .int (iI spo), .int (iI mos)], aI t zA 646 z_3, aI t spA 646 sp, aI t svA 3876 sv_2, aI t soA 1292 so, aZ t ikA 2 ik, aI t txA 60 tx, aI t viA 120 vi, aI t srA 120 sr_3, aI t frA 122 fr_3, aI t toA 122 to_3, aI t hoA 31 ho, aI t keA 31 ke]) (pmI [0, 1, 2, 3, 4, 5, 6, 7, 8, 9, 10, 11, 12] 13 rfl (by decide +kernel) rfl) ?_
      refine V_aload_n hc dX5_begin_34 0 rfl ?_
      refine V_get (C := RX5) (T := TX5) (N := 21) hc i_X5_begin_5 0 rfl rfl 0 (by decide) m_X5_begin_7 rfl dX5_begin_35 ?_
      refine V_sipush hc dX5_begin_38 (by decide) ?_
      refine V_iald hc 1 rfl (by decide) ⟨by decide, hv⟩ dX5_begin_41 (fun hv => ?_)
      exact V_iret hc hr (nsv_2, thr_1, z_3, sv_2, sr_3, fr_3, to_3) hv rfl dX5_begin_42
    · refine V_iconst hc dX5_begin_24 ?_
      exact V_iret hc hr (nsv, thr_1, z, sv, sr, fr, to) hv rfl dX5_begin_25
  refine V_lv [0] [(0, .ref hM)] rfl ?_
  unfold wp_X5_begin at hv
  refine V_aload_n hc dX5_begin_0 0 rfl ?_
  refine V_aload_n hc dX5_begin_1 0 rfl ?_
  refine V_get (C := RX5) (T := TX5) (N := 21) hc i_X5_begin_5 0 rfl rfl 0 (by decide) m_X5_begin_7 rfl dX5_begin_2 ?_
  refine V_sipush hc dX5_begin_5 (by decide) ?_
  refine V_iald hc 1 rfl (by decide) ⟨by decide, hv⟩ dX5_begin_8 (fun hv => ?_)
  refine V_iconst hc dX5_begin_9 ?_
  refine V_icmp_ne (tgt := 17) hc dX5_begin_10 (by decide) ⟨hv.1, by decide, hv.2⟩ (fun hv => ?_) (fun hv => ?_)
  · refine V_iconst hc dX5_begin_17 ?_
    exact C_18 nsv thr z sv sr fr to 0 hv
  · refine V_iconst hc dX5_begin_13 ?_
    refine V_goto (tgt := 18) hc dX5_begin_14 (by decide) ?_
    exact C_18 nsv thr z sv sr fr to 1 hv
abbrev W1_X5_abandon (t : Nat → ClassId) (hM : Nat) (zA : Nat) (spA : Nat) (svA : Nat) (soA : Nat) (ikA : Nat) (txA : Nat) (viA : Nat) (srA : Nat) (frA : Nat) (toA : Nat) (hoA : Nat) (keA : Nat) (len : Int) (nvi : Int) (low : Int) (high : Int) (nto : Int) (spo : Int) (mos : Int) (sp : Nat → Int) (so : Nat → Int) (ik : Nat → Int) (tx : Nat → Int) (vi : Nat → Int) (sr : Nat → Int) (fr : Nat → Int) (to : Nat → Int) (ho : Nat → Int) (ke : Nat → Int) (u : (Int) × (Int) × (Nat → Int) × (Nat → Int)) : va_W := [oB hM 5 [.ref zA, .ref spA, .ref svA, .int (iI u.1), .ref soA, .ref ikA, .ref txA, .int (iI len), .int (iI u.2.1), .int (iI nvi), .ref viA, .int (iI low), .int (iI high), .ref srA, .ref frA, .ref toA, .ref hoA, .ref keA, .int (iI nto), .int (iI spo), .int (iI mos)], aI t zA 646 u.2.2.1, aI t spA 646 sp, aI t svA 3876 u.2.2.2, aI t soA 1292 so, aZ t ikA 2 ik, aI t txA 60 tx, aI t viA 120 vi, aI t srA 120 sr, aI t frA 122 fr, aI t toA 122 to, aI t hoA 31 ho, aI t keA 31 ke]
abbrev po_X5_abandon (Q : Int → (Int) → (Int) → (Nat → Int) → (Nat → Int) → Prop) (r : Int) (u : (Int) × (Int) × (Nat → Int) × (Nat → Int)) : Prop := Q r u.1 u.2.1 u.2.2.1 u.2.2.2
abbrev rm_X5_abandon : Room := { frames := 2, cells := 0, slots := 0, locals := 45 }
def wp_X5_abandon_17 (nsv : Int) (thr : Int) (z : Nat → Int) (sv : Nat → Int) (s0 : Int) (Q : Int → (Int) → (Int) → (Nat → Int) → (Nat → Int) → Prop) : Prop := wp_X5_refused thr s0 (fun r_1 thr_1 => inR r_1 ∧ (r_1 = 0 → wp_X5_saveState nsv z sv (fun nsv_2 sv_2 => wp_X5_endNow z (fun z_3 => Q (z 484) nsv_2 thr_1 (uI z_3 645 ((z_3 645) + 1)) sv_2))) ∧ (¬ (r_1 = 0) → Q 0 nsv thr_1 z sv))
def wp_X5_abandon (nsv : Int) (thr : Int) (z : Nat → Int) (sv : Nat → Int) (Q : Int → (Int) → (Int) → (Nat → Int) → (Nat → Int) → Prop) : Prop := inR (z 482) ∧ (z 482 ≠ 0 → wp_X5_abandon_17 nsv thr z sv 0 Q) ∧ (¬ (z 482 ≠ 0) → wp_X5_abandon_17 nsv thr z sv 1 Q)
theorem m_X5_abandon_7 : Cond.fieldLink RX5 7 "BackgroundRebuildModel" "z" "[I" ∈ wsX5_abandon := by decide +kernel
theorem i_X5_abandon_5 : ∀ w ∈ u_ws RX5 TX5 21, w ∈ wsX5_abandon := by decide +kernel
theorem ok_X5_abandon : yX5_abandon.cls = RX5 ∧ yX5_abandon.cls ≠ "java/lang/invoke/MethodHandle" ∧ yX5_abandon.cls ≠ "java/lang/invoke/VarHandle" ∧ (parseMethodDescriptor yX5_abandon.desc).map (fun d => d.parameters.length) = some 0 := by decide +kernel
set_option maxHeartbeats 4000000 in
set_option maxRecDepth 100000 in
theorem met_X5_abandon (l : Launch) (D : va_G) (t : Nat → ClassId) (hM : Nat) (zA : Nat) (spA : Nat) (svA : Nat) (soA : Nat) (ikA : Nat) (txA : Nat) (viA : Nat) (srA : Nat) (frA : Nat) (toA : Nat) (hoA : Nat) (keA : Nat) (nsv : Int) (len : Int) (thr : Int) (nvi : Int) (low : Int) (high : Int) (nto : Int) (spo : Int) (mos : Int) (z : Nat → Int) (sp : Nat → Int) (sv : Nat → Int) (so : Nat → Int) (ik : Nat → Int) (tx : Nat → Int) (vi : Nat → Int) (sr : Nat → Int) (fr : Nat → Int) (to : Nat → Int) (ho : Nat → Int) (ke : Nat → Int) (Q : Int → (Int) → (Int) → (Nat → Int) → (Nat → Int) → Prop) (hv : wp_X5_abandon nsv thr z sv Q) : MI l D t yX5_abandon wsX5_abandon rm_X5_abandon [.ref hM] [oB hM 5 [.ref zA, .ref spA, .ref svA, .int (iI nsv), .ref soA, .ref ikA, .ref txA, .int (iI len), .int (iI thr), .int (iI nvi), .ref viA, .int (iI low), .int (iI high), .ref srA, .ref frA, .ref toA, .ref hoA, .ref keA, .int (iI nto), .int (iI spo), .int (iI mos)], aI t zA 646 z, aI t spA 646 sp, aI t svA 3876 sv, aI t soA 1292 so, aZ t ikA 2 ik, aI t txA 60 tx, aI t viA 120 vi, aI t srA 120 sr, aI t frA 122 fr, aI t toA 122 to, aI t hoA 31 ho, aI t keA 31 ke] (W1_X5_abandon t hM zA spA svA soA ikA txA viA srA frA toA hoA keA len nvi low high nto spo mos sp so ik tx vi sr fr to ho ke) (po_X5_abandon Q) 0 0 := by
  refine M_ofi (cc := cX5_abandon) (nL := 2) (by decide) rfl (Nat.le_of_ble_eq_true rfl) ?_
  intro p e s m args below meth c A hc hr
  have C_17 : ∀ (nsv : Int) (thr : Int) (z : Nat → Int) (sv : Nat → Int) (s0 : Int), wp_X5_abandon_17 nsv thr z sv s0 Q → V p l e rm_X5_abandon s m args below meth c D A 2 0 0 (MQ below (QI D A (W1_X5_abandon t hM zA spA svA soA ikA txA viA srA frA toA hoA keA len nvi low high nto spo mos sp so ik tx vi sr fr to ho ke) (po_X5_abandon Q)) args s 0 0 A) 17 [(0, .ref hM)] [.int (iI s0), .ref hM] [oB hM 5 [.ref zA, .ref spA, .ref svA, .int (iI nsv), .ref soA, .ref ikA, .ref txA, .int (iI len), .int (iI thr), .int (iI nvi), .ref viA, .int (iI low), .int (iI high), .ref srA, .ref frA, .ref toA, .ref hoA, .ref keA, .int (iI nto), .int (iI spo), .int (iI mos)], aI t zA 646 z, aI t spA 646 sp, aI t svA 3876 sv, aI t soA 1292 so, aZ t ikA 2 ik, aI t txA 60 tx, aI t viA 120 vi, aI t srA 120 sr, aI t frA 122 fr, aI t toA 122 to, aI t hoA 31 ho, aI t keA 31 ke] := by
    intro nsv thr z sv s0 hv
    unfold wp_X5_abandon_17 at hv
    refine V_callVI (As := [.int (iI s0)]) hc (wc := [oB hM 5 [.ref zA, .ref spA, .ref svA, .int (iI nsv), .ref soA, .ref ikA, .ref txA, .int (iI len), .int (iI thr), .int (iI nvi), .ref viA, .int (iI low), .int (iI high), .ref srA, .ref frA, .ref toA, .ref hoA, .ref keA, .int (iI nto), .int (iI spo), .int (iI mos)], aI t zA 646 z, aI t spA 646 sp, aI t svA 3876 sv, aI t soA 1292 so, aZ t ikA 2 ik, aI t txA 60 tx, aI t viA 120 vi, aI t srA 120 sr, aI t frA 122 fr, aI t toA 122 to, aI t hoA 31 ho, aI t keA 31 ke]) (wr := []) (pmI [0, 1, 2, 3, 4, 5, 6, 7, 8, 9, 10, 11, 12] 13 rfl (by decide +kernel) rfl) rfl rfl (met_X5_refused l D t hM zA spA svA soA ikA txA viA srA frA toA hoA keA nsv len thr nvi low high nto spo mos z sp sv so ik tx vi sr fr to ho ke s0 _ hv) rfl gX5_abandon_X5_refused rfl ⟨rfl, rfl⟩ ok_X5_refused (by decide) (Nat.le_of_ble_eq_true rfl) dX5_abandon_17 (by decide) (fun r_1 u9 hv => ?_)
    obtain ⟨thr_1, h9⟩ : ∃ z, z = u9 := ⟨_, rfl⟩
    subst h9
    try dsimp only at hv
    refine V_perm (ws1 := [oB hM 5 [.ref zA, .ref spA, .ref svA, .int (iI nsv), .ref soA, .ref ikA, .ref txA, .int (iI len), .int (iI thr_1), .int (iI nvi), .ref viA, .int (iI low), .int (iI high), .ref srA, .ref frA, .ref toA, .ref hoA, .ref keA, .int (iI nto), .int (iI spo), .int (iI mos)], aI t zA 646 z, aI t spA 646 sp, aI t svA 3876 sv, aI t soA 1292 so, aZ t ikA 2 ik, aI t txA 60 tx, aI t viA 120 vi, aI t srA 120 sr, aI t frA 122 fr, aI t toA 122 to, aI t hoA 31 ho, aI t keA 31 ke]) (pmI [0, 1, 2, 3, 4, 5, 6, 7, 8, 9, 10, 11, 12] 13 rfl (by decide +kernel) rfl) ?_
    refine V_if_eq (tgt := 25) hc dX5_abandon_20 (by decide) hv (fun hv => ?_) (fun hv => ?_)
    · refine V_aload_n hc dX5_abandon_25 0 rfl ?_
      refine V_callVV (As := []) hc (wc := [oB hM 5 [.ref zA, .ref spA, .ref svA, .int (iI nsv), .ref soA, .ref ikA, .ref txA, .int (iI len), .int (iI thr_1), .int (iI nvi), .ref viA, .int (iI low), .int (iI high), .ref srA, .ref frA, .ref toA, .ref hoA, .ref keA, .int (iI nto), .int (iI spo), .int (iI mos)], aI t zA 646 z, aI t spA 646 sp, aI t svA 3876 sv, aI t soA 1292 so, aZ t ikA 2 ik, aI t txA 60 tx, aI t viA 120 vi, aI t srA 120 sr, aI t frA 122 fr, aI t toA 122 to, aI t hoA 31 ho, aI t keA 31 ke]) (wr := []) (pmI [0, 1, 2, 3, 4, 5, 6, 7, 8, 9, 10, 11, 12] 13 rfl (by decide +kernel) rfl) rfl rfl (met_X5_saveState l D t hM zA spA svA soA ikA txA viA srA frA toA hoA keA nsv len thr_1 nvi low high nto spo mos z sp sv so ik tx vi sr fr to ho ke _ hv) rfl gX5_abandon_X5_saveState rfl ⟨rfl, rfl⟩ ok_X5_saveState (by decide) (Nat.le_of_ble_eq_true rfl) dX5_abandon_26 (by decide) (fun u9 hv => ?_)
      obtain ⟨nsv_2, sv_2⟩ := u9
      try dsimp only at hv
      refine V_perm (ws1 := [oB hM 5 [.ref zA, .ref spA, .ref svA, .int (iI nsv_2), .ref soA, .ref ikA, .ref txA, .int (iI len), .int (iI thr_1), .int (iI nvi), .ref viA, .int (iI low), .int (iI high), .ref srA, .ref frA, .ref toA, .ref hoA, .ref keA, .int (iI nto), .int (iI spo), .int (iI mos)], aI t zA 646 z, aI t spA 646 sp, aI t svA 3876 sv_2, aI t soA 1292 so, aZ t ikA 2 ik, aI t txA 60 tx, aI t viA 120 vi, aI t srA 120 sr, aI t frA 122 fr, aI t toA 122 to, aI t hoA 31 ho, aI t keA 31 ke]) (pmI [0, 1, 2, 3, 4, 5, 6, 7, 8, 9, 10, 11, 12] 13 rfl (by decide +kernel) rfl) ?_
      refine V_aload_n hc dX5_abandon_29 0 rfl ?_
      refine V_get (C := RX5) (T := TX5) (N := 21) hc i_X5_abandon_5 0 rfl rfl 0 (by decide) m_X5_abandon_7 rfl dX5_abandon_30 ?_
      refine V_sipush hc dX5_abandon_33 (by decide) ?_
      refine V_iald hc 1 rfl (by decide) ⟨by decide, hv⟩ dX5_abandon_36 (fun hv => ?_)
      refine V_istore_n hc dX5_abandon_37 [(1, .int (iI (z 484))), (0, .ref hM)] (by decide) rfl ?_
      refine V_aload_n hc dX5_abandon_38 1 rfl ?_
      refine V_callVV (As := []) hc (wc := [oB hM 5 [.ref zA, .ref spA, .ref svA, .int (iI nsv_2), .ref soA, .ref ikA, .ref txA, .int (iI len), .int (iI thr_1), .int (iI nvi), .ref viA, .int (iI low), .int (iI high), .ref srA, .ref frA, .ref toA, .ref hoA, .ref keA, .int (iI nto), .int (iI spo), .int (iI mos)], aI t zA 646 z, aI t spA 646 sp, aI t svA 3876 sv_2, aI t soA 1292 so, aZ t ikA 2 ik, aI t txA 60 tx, aI t viA 120 vi, aI t srA 120 sr, aI t frA 122 fr, aI t toA 122 to, aI t hoA 31 ho, aI t keA 31 ke]) (wr := []) (pmI [0, 1, 2, 3, 4, 5, 6, 7, 8, 9, 10, 11, 12] 13 rfl (by decide +kernel) rfl) rfl rfl (met_X5_endNow l D t hM zA spA svA soA ikA txA viA srA frA toA hoA keA nsv_2 len thr_1 nvi low high nto spo mos z sp sv_2 so ik tx vi sr fr to ho ke _ hv) rfl gX5_abandon_X5_endNow rfl ⟨rfl, rfl⟩ ok_X5_endNow (by decide) (Nat.le_of_ble_eq_true rfl) dX5_abandon_39 (by decide) (fun u9 hv => ?_)
      obtain ⟨z_3, h9⟩ : ∃ z, z = u9 := ⟨_, rfl⟩
      subst h9
      try dsimp only at hv
      refine V_perm (ws1 := [oB hM 5 [.ref zA, .ref spA, .ref svA, .int (iI nsv_2), .ref soA, .ref ikA, .ref txA, .int (iI len), .int (iI thr_1), .int (iI nvi), .ref viA, .int (iI low), .int (iI high), .ref srA, .ref frA, .ref toA, .ref hoA, .ref keA, .int (iI nto), .int (iI spo), .int (iI mos)], aI t zA 646 z_3, aI t spA 646 sp, aI t svA 3876 sv_2, aI t soA 1292 so, aZ t ikA 2 ik, aI t txA 60 tx, aI t viA 120 vi, aI t srA 120 sr, aI t frA 122 fr, aI t toA 122 to, aI t hoA 31 ho, aI t keA 31 ke]) (pmI [0, 1, 2, 3, 4, 5, 6, 7, 8, 9, 10, 11, 12] 13 rfl (by decide +kernel) rfl) ?_
      refine V_aload_n hc dX5_abandon_42 1 rfl ?_
      refine V_get (C := RX5) (T := TX5) (N := 21) hc i_X5_abandon_5 0 rfl rfl 0 (by decide) m_X5_abandon_7 rfl dX5_abandon_43 ?_
      refine V_sipush hc dX5_abandon_46 (by decide) ?_
      refine V_dup2 hc dX5_abandon_49 rfl rfl ?_
      refine V_iald hc 1 rfl (by decide) ⟨by decide, hv⟩ dX5_abandon_50 (fun hv => ?_)
      refine V_iconst hc dX5_abandon_51 ?_
      refine V_iadd hc dX5_abandon_52 ?_
      refine V_iast hc 1 rfl (by decide) ⟨by decide, hv⟩ dX5_abandon_53 [oB hM 5 [.ref zA, .ref spA, .ref svA, .int (iI nsv_2), .ref soA, .ref ikA, .ref txA, .int (iI len), .int (iI thr_1), .int (iI nvi), .ref viA, .int (iI low), .int (iI high), .ref srA, .ref frA, .ref toA, .ref hoA, .ref keA, .int (iI nto), .int (iI spo), .int (iI mos)], aI t zA 646 (uI z_3 645 ((z_3 645) + 1)), aI t spA 646 sp, aI t svA 3876 sv_2, aI t soA 1292 so, aZ t ikA 2 ik, aI t txA 60 tx, aI t viA 120 vi, aI t srA 120 sr, aI t frA 122 fr, aI t toA 122 to, aI t hoA 31 ho, aI t keA 31 ke] rfl (fun hv => ?_)
      refine V_iload_n hc dX5_abandon_54 0 rfl ?_
      exact V_iret hc hr (nsv_2, thr_1, uI z_3 645 ((z_3 645) + 1), sv_2) hv rfl dX5_abandon_55
    · refine V_iconst hc dX5_abandon_23 ?_
      exact V_iret hc hr (nsv, thr_1, z, sv) hv rfl dX5_abandon_24
  refine V_lv [0] [(0, .ref hM)] rfl ?_
  unfold wp_X5_abandon at hv
  refine V_aload_n hc dX5_abandon_0 0 rfl ?_
  refine V_aload_n hc dX5_abandon_1 0 rfl ?_
  refine V_get (C := RX5) (T := TX5) (N := 21) hc i_X5_abandon_5 0 rfl rfl 0 (by decide) m_X5_abandon_7 rfl dX5_abandon_2 ?_
  refine V_sipush hc dX5_abandon_5 (by decide) ?_
  refine V_iald hc 1 rfl (by decide) ⟨by decide, hv⟩ dX5_abandon_8 (fun hv => ?_)
  refine V_if_ne (tgt := 16) hc dX5_abandon_9 (by decide) hv (fun hv => ?_) (fun hv => ?_)
  · refine V_iconst hc dX5_abandon_16 ?_
    exact C_17 nsv thr z sv 0 hv
  · refine V_iconst hc dX5_abandon_12 ?_
    refine V_goto (tgt := 17) hc dX5_abandon_13 (by decide) ?_
    exact C_17 nsv thr z sv 1 hv
abbrev W1_X5_isValue (t : Nat → ClassId) (u : Unit) : va_W := []
abbrev po_X5_isValue (Q : Int → Prop) (r : Int) (u : Unit) : Prop := Q r
abbrev rm_X5_isValue : Room := { frames := 1, cells := 0, slots := 0, locals := 22 }
def wp_X5_isValue (x0 : Int) (x1 : Int) (Q : Int → Prop) : Prop := inR x0 ∧ (x0 ≠ 0 → inR x0 ∧ (x0 ≠ 1 → wp_X5_in x1 1 8 (fun r_1 => (r_1 = 0 ∨ r_1 = 1) ∧ Q r_1)) ∧ (¬ (x0 ≠ 1) → wp_X5_in x1 3 40 (fun r_2 => (r_2 = 0 ∨ r_2 = 1) ∧ Q r_2))) ∧ (¬ (x0 ≠ 0) → wp_X5_in x1 10 100 (fun r_3 => (r_3 = 0 ∨ r_3 = 1) ∧ Q r_3))
theorem ok_X5_isValue : yX5_isValue.cls ≠ "java/lang/invoke/MethodHandle" ∧ yX5_isValue.cls ≠ "java/lang/invoke/VarHandle" ∧ (parseMethodDescriptor yX5_isValue.desc).map (fun d => d.parameters.length) = some 2 := by decide +kernel
set_option maxHeartbeats 4000000 in
set_option maxRecDepth 100000 in
theorem met_X5_isValue (l : Launch) (D : va_G) (t : Nat → ClassId) (x0 : Int) (x1 : Int) (Q : Int → Prop) (hv : wp_X5_isValue x0 x1 Q) : MI l D t yX5_isValue wsX5_isValue rm_X5_isValue [.int (iI x0), .int (iI x1)] [] (W1_X5_isValue t ) (po_X5_isValue Q) 0 0 := by
  refine M_ofz (cc := cX5_isValue) (nL := 2) (by decide) rfl (Nat.le_of_ble_eq_true rfl) ?_
  intro p e s m args below meth c A hc hr
  refine V_lv [0, 1] [(0, .int (iI x0)), (1, .int (iI x1))] rfl ?_
  unfold wp_X5_isValue at hv
  refine V_iload_n hc dX5_isValue_0 0 rfl ?_
  refine V_if_ne (tgt := 15) hc dX5_isValue_1 (by decide) hv (fun hv => ?_) (fun hv => ?_)
  · refine V_iload_n hc dX5_isValue_15 0 rfl ?_
    refine V_iconst hc dX5_isValue_16 ?_
    refine V_icmp_ne (tgt := 30) hc dX5_isValue_17 (by decide) ⟨hv.1, by decide, hv.2⟩ (fun hv => ?_) (fun hv => ?_)
    · refine V_iload_n hc dX5_isValue_30 1 rfl ?_
      refine V_iconst hc dX5_isValue_31 ?_
      refine V_bipush hc dX5_isValue_32 (by decide) ?_
      refine V_callSI (As := [.int (iI x1), .int (iI 1), .int (iI 8)]) hc (wc := []) (wr := []) (pmI [] 0 rfl (by decide +kernel) rfl) (met_X5_in l D t x1 1 8 _ hv) rfl gX5_isValue_X5_in rfl ⟨rfl, rfl⟩ ok_X5_in (by decide) (Nat.le_of_ble_eq_true rfl) dX5_isValue_34 (by decide) (fun r_1 _ hv => ?_)
      try dsimp only at hv
      refine V_perm (ws1 := []) (pmI [] 0 rfl (by decide +kernel) rfl) ?_
      exact V_zret hc hr () hv rfl dX5_isValue_37
    · refine V_iload_n hc dX5_isValue_20 1 rfl ?_
      refine V_iconst hc dX5_isValue_21 ?_
      refine V_bipush hc dX5_isValue_22 (by decide) ?_
      refine V_callSI (As := [.int (iI x1), .int (iI 3), .int (iI 40)]) hc (wc := []) (wr := []) (pmI [] 0 rfl (by decide +kernel) rfl) (met_X5_in l D t x1 3 40 _ hv) rfl gX5_isValue_X5_in rfl ⟨rfl, rfl⟩ ok_X5_in (by decide) (Nat.le_of_ble_eq_true rfl) dX5_isValue_24 (by decide) (fun r_2 _ hv => ?_)
      try dsimp only at hv
      refine V_perm (ws1 := []) (pmI [] 0 rfl (by decide +kernel) rfl) ?_
      refine V_goto (tgt := 37) hc dX5_isValue_27 (by decide) ?_
      exact V_zret hc hr () hv rfl dX5_isValue_37
  · refine V_iload_n hc dX5_isValue_4 1 rfl ?_
    refine V_bipush hc dX5_isValue_5 (by decide) ?_
    refine V_bipush hc dX5_isValue_7 (by decide) ?_
    refine V_callSI (As := [.int (iI x1), .int (iI 10), .int (iI 100)]) hc (wc := []) (wr := []) (pmI [] 0 rfl (by decide +kernel) rfl) (met_X5_in l D t x1 10 100 _ hv) rfl gX5_isValue_X5_in rfl ⟨rfl, rfl⟩ ok_X5_in (by decide) (Nat.le_of_ble_eq_true rfl) dX5_isValue_9 (by decide) (fun r_3 _ hv => ?_)
    try dsimp only at hv
    refine V_perm (ws1 := []) (pmI [] 0 rfl (by decide +kernel) rfl) ?_
    refine V_goto (tgt := 37) hc dX5_isValue_12 (by decide) ?_
    exact V_zret hc hr () hv rfl dX5_isValue_37
abbrev W1_X5_set (t : Nat → ClassId) (hM : Nat) (zA : Nat) (spA : Nat) (svA : Nat) (soA : Nat) (ikA : Nat) (txA : Nat) (viA : Nat) (srA : Nat) (frA : Nat) (toA : Nat) (hoA : Nat) (keA : Nat) (len : Int) (nvi : Int) (low : Int) (high : Int) (nto : Int) (spo : Int) (mos : Int) (sp : Nat → Int) (so : Nat → Int) (ik : Nat → Int) (tx : Nat → Int) (vi : Nat → Int) (sr : Nat → Int) (fr : Nat → Int) (to : Nat → Int) (ho : Nat → Int) (ke : Nat → Int) (u : (Int) × (Int) × (Nat → Int) × (Nat → Int)) : va_W := [oB hM 5 [.ref zA, .ref spA, .ref svA, .int (iI u.1), .ref soA, .ref ikA, .ref txA, .int (iI len), .int (iI u.2.1), .int (iI nvi), .ref viA, .int (iI low), .int (iI high), .ref srA, .ref frA, .ref toA, .ref hoA, .ref keA, .int (iI nto), .int (iI spo), .int (iI mos)], aI t zA 646 u.2.2.1, aI t spA 646 sp, aI t svA 3876 u.2.2.2, aI t soA 1292 so, aZ t ikA 2 ik, aI t txA 60 tx, aI t viA 120 vi, aI t srA 120 sr, aI t frA 122 fr, aI t toA 122 to, aI t hoA 31 ho, aI t keA 31 ke]
abbrev po_X5_set (Q : Int → (Int) → (Int) → (Nat → Int) → (Nat → Int) → Prop) (r : Int) (u : (Int) × (Int) × (Nat → Int) × (Nat → Int)) : Prop := Q r u.1 u.2.1 u.2.2.1 u.2.2.2
abbrev rm_X5_set : Room := { frames := 2, cells := 0, slots := 0, locals := 45 }
def wp_X5_set_27 (nsv : Int) (thr : Int) (z : Nat → Int) (sv : Nat → Int) (x1 : Int) (x2 : Int) (s0 : Int) (Q : Int → (Int) → (Int) → (Nat → Int) → (Nat → Int) → Prop) : Prop := wp_X5_refused thr s0 (fun r_3 thr_3 => inR r_3 ∧ (r_3 = 0 → wp_X5_saveState nsv z sv (fun nsv_4 sv_4 => (0 ≤ 636 + x1 ∧ 636 + x1 < 646) ∧ (0 ≤ 636 + x1 ∧ 636 + x1 < 646) ∧ Q (z (636 + x1).toNat) nsv_4 thr_3 (uI z ((636 + x1).toNat) x2) sv_4)) ∧ (¬ (r_3 = 0) → Q 0 nsv thr_3 z sv))
def wp_X5_set (nsv : Int) (thr : Int) (z : Nat → Int) (sv : Nat → Int) (x1 : Int) (x2 : Int) (Q : Int → (Int) → (Int) → (Nat → Int) → (Nat → Int) → Prop) : Prop := wp_X5_in x1 0 2 (fun r_1 => inR r_1 ∧ (r_1 ≠ 0 → wp_X5_isValue x1 x2 (fun r_2 => inR r_2 ∧ (r_2 = 0 → wp_X5_set_27 nsv thr z sv x1 x2 2 Q) ∧ (¬ (r_2 = 0) → wp_X5_set_27 nsv thr z sv x1 x2 0 Q))) ∧ (¬ (r_1 ≠ 0) → wp_X5_set_27 nsv thr z sv x1 x2 1 Q))
theorem m_X5_set_7 : Cond.fieldLink RX5 7 "BackgroundRebuildModel" "z" "[I" ∈ wsX5_set := by decide +kernel
theorem i_X5_set_5 : ∀ w ∈ u_ws RX5 TX5 21, w ∈ wsX5_set := by decide +kernel
theorem ok_X5_set : yX5_set.cls = RX5 ∧ yX5_set.cls ≠ "java/lang/invoke/MethodHandle" ∧ yX5_set.cls ≠ "java/lang/invoke/VarHandle" ∧ (parseMethodDescriptor yX5_set.desc).map (fun d => d.parameters.length) = some 2 := by decide +kernel
set_option maxHeartbeats 4000000 in
set_option maxRecDepth 100000 in
theorem met_X5_set (l : Launch) (D : va_G) (t : Nat → ClassId) (hM : Nat) (zA : Nat) (spA : Nat) (svA : Nat) (soA : Nat) (ikA : Nat) (txA : Nat) (viA : Nat) (srA : Nat) (frA : Nat) (toA : Nat) (hoA : Nat) (keA : Nat) (nsv : Int) (len : Int) (thr : Int) (nvi : Int) (low : Int) (high : Int) (nto : Int) (spo : Int) (mos : Int) (z : Nat → Int) (sp : Nat → Int) (sv : Nat → Int) (so : Nat → Int) (ik : Nat → Int) (tx : Nat → Int) (vi : Nat → Int) (sr : Nat → Int) (fr : Nat → Int) (to : Nat → Int) (ho : Nat → Int) (ke : Nat → Int) (x1 : Int) (x2 : Int) (Q : Int → (Int) → (Int) → (Nat → Int) → (Nat → Int) → Prop) (hv : wp_X5_set nsv thr z sv x1 x2 Q) : MI l D t yX5_set wsX5_set rm_X5_set [.ref hM, .int (iI x1), .int (iI x2)] [oB hM 5 [.ref zA, .ref spA, .ref svA, .int (iI nsv), .ref soA, .ref ikA, .ref txA, .int (iI len), .int (iI thr), .int (iI nvi), .ref viA, .int (iI low), .int (iI high), .ref srA, .ref frA, .ref toA, .ref hoA, .ref keA, .int (iI nto), .int (iI spo), .int (iI mos)], aI t zA 646 z, aI t spA 646 sp, aI t svA 3876 sv, aI t soA 1292 so, aZ t ikA 2 ik, aI t txA 60 tx, aI t viA 120 vi, aI t srA 120 sr, aI t frA 122 fr, aI t toA 122 to, aI t hoA 31 ho, aI t keA 31 ke] (W1_X5_set t hM zA spA svA soA ikA txA viA srA frA toA hoA keA len nvi low high nto spo mos sp so ik tx vi sr fr to ho ke) (po_X5_set Q) 0 0 := by
  refine M_ofi (cc := cX5_set) (nL := 4) (by decide) rfl (Nat.le_of_ble_eq_true rfl) ?_
  intro p e s m args below meth c A hc hr
  have C_27 : ∀ (nsv : Int) (thr : Int) (z : Nat → Int) (sv : Nat → Int) (x1 : Int) (x2 : Int) (s0 : Int), wp_X5_set_27 nsv thr z sv x1 x2 s0 Q → V p l e rm_X5_set s m args below meth c D A 4 0 0 (MQ below (QI D A (W1_X5_set t hM zA spA svA soA ikA txA viA srA frA toA hoA keA len nvi low high nto spo mos sp so ik tx vi sr fr to ho ke) (po_X5_set Q)) args s 0 0 A) 27 [(0, .ref hM), (1, .int (iI x1)), (2, .int (iI x2))] [.int (iI s0), .ref hM] [oB hM 5 [.ref zA, .ref spA, .ref svA, .int (iI nsv), .ref soA, .ref ikA, .ref txA, .int (iI len), .int (iI thr), .int (iI nvi), .ref viA, .int (iI low), .int (iI high), .ref srA, .ref frA, .ref toA, .ref hoA, .ref keA, .int (iI nto), .int (iI spo), .int (iI mos)], aI t zA 646 z, aI t spA 646 sp, aI t svA 3876 sv, aI t soA 1292 so, aZ t ikA 2 ik, aI t txA 60 tx, aI t viA 120 vi, aI t srA 120 sr, aI t frA 122 fr, aI t toA 122 to, aI t hoA 31 ho, aI t keA 31 ke] := by
    intro nsv thr z sv x1 x2 s0 hv
    unfold wp_X5_set_27 at hv
    refine V_callVI (As := [.int (iI s0)]) hc (wc := [oB hM 5 [.ref zA, .ref spA, .ref svA, .int (iI nsv), .ref soA, .ref ikA, .ref txA, .int (iI len), .int (iI thr), .int (iI nvi), .ref viA, .int (iI low), .int (iI high), .ref srA, .ref frA, .ref toA, .ref hoA, .ref keA, .int (iI nto), .int (iI spo), .int (iI mos)], aI t zA 646 z, aI t spA 646 sp, aI t svA 3876 sv, aI t soA 1292 so, aZ t ikA 2 ik, aI t txA 60 tx, aI t viA 120 vi, aI t srA 120 sr, aI t frA 122 fr, aI t toA 122 to, aI t hoA 31 ho, aI t keA 31 ke]) (wr := []) (pmI [0, 1, 2, 3, 4, 5, 6, 7, 8, 9, 10, 11, 12] 13 rfl (by decide +kernel) rfl) rfl rfl (met_X5_refused l D t hM zA spA svA soA ikA txA viA srA frA toA hoA keA nsv len thr nvi low high nto spo mos z sp sv so ik tx vi sr fr to ho ke s0 _ hv) rfl gX5_set_X5_refused rfl ⟨rfl, rfl⟩ ok_X5_refused (by decide) (Nat.le_of_ble_eq_true rfl) dX5_set_27 (by decide) (fun r_3 u9 hv => ?_)
    obtain ⟨thr_3, h9⟩ : ∃ z, z = u9 := ⟨_, rfl⟩
    subst h9
    try dsimp only at hv
    refine V_perm (ws1 := [oB hM 5 [.ref zA, .ref spA, .ref svA, .int (iI nsv), .ref soA, .ref ikA, .ref txA, .int (iI len), .int (iI thr_3), .int (iI nvi), .ref viA, .int (iI low), .int (iI high), .ref srA, .ref frA, .ref toA, .ref hoA, .ref keA, .int (iI nto), .int (iI spo), .int (iI mos)], aI t zA 646 z, aI t spA 646 sp, aI t svA 3876 sv, aI t soA 1292 so, aZ t ikA 2 ik, aI t txA 60 tx, aI t viA 120 vi, aI t srA 120 sr, aI t frA 122 fr, aI t toA 122 to, aI t hoA 31 ho, aI t keA 31 ke]) (pmI [0, 1, 2, 3, 4, 5, 6, 7, 8, 9, 10, 11, 12] 13 rfl (by decide +kernel) rfl) ?_
    refine V_if_eq (tgt := 35) hc dX5_set_30 (by decide) hv (fun hv => ?_) (fun hv => ?_)
    · refine V_aload_n hc dX5_set_35 0 rfl ?_
      refine V_callVV (As := []) hc (wc := [oB hM 5 [.ref zA, .ref spA, .ref svA, .int (iI nsv), .ref soA, .ref ikA, .ref txA, .int (iI len), .int (iI thr_3), .int (iI nvi), .ref viA, .int (iI low), .int (iI high), .ref srA, .ref frA, .ref toA, .ref hoA, .ref keA, .int (iI nto), .int (iI spo), .int (iI mos)], aI t zA 646 z, aI t spA 646 sp, aI t svA 3876 sv, aI t soA 1292 so, aZ t ikA 2 ik, aI t txA 60 tx, aI t viA 120 vi, aI t srA 120 sr, aI t frA 122 fr, aI t toA 122 to, aI t hoA 31 ho, aI t keA 31 ke]) (wr := []) (pmI [0, 1, 2, 3, 4, 5, 6, 7, 8, 9, 10, 11, 12] 13 rfl (by decide +kernel) rfl) rfl rfl (met_X5_saveState l D t hM zA spA svA soA ikA txA viA srA frA toA hoA keA nsv len thr_3 nvi low high nto spo mos z sp sv so ik tx vi sr fr to ho ke _ hv) rfl gX5_set_X5_saveState rfl ⟨rfl, rfl⟩ ok_X5_saveState (by decide) (Nat.le_of_ble_eq_true rfl) dX5_set_36 (by decide) (fun u9 hv => ?_)
      obtain ⟨nsv_4, sv_4⟩ := u9
      try dsimp only at hv
      refine V_perm (ws1 := [oB hM 5 [.ref zA, .ref spA, .ref svA, .int (iI nsv_4), .ref soA, .ref ikA, .ref txA, .int (iI len), .int (iI thr_3), .int (iI nvi), .ref viA, .int (iI low), .int (iI high), .ref srA, .ref frA, .ref toA, .ref hoA, .ref keA, .int (iI nto), .int (iI spo), .int (iI mos)], aI t zA 646 z, aI t spA 646 sp, aI t svA 3876 sv_4, aI t soA 1292 so, aZ t ikA 2 ik, aI t txA 60 tx, aI t viA 120 vi, aI t srA 120 sr, aI t frA 122 fr, aI t toA 122 to, aI t hoA 31 ho, aI t keA 31 ke]) (pmI [0, 1, 2, 3, 4, 5, 6, 7, 8, 9, 10, 11, 12] 13 rfl (by decide +kernel) rfl) ?_
      refine V_aload_n hc dX5_set_39 0 rfl ?_
      refine V_get (C := RX5) (T := TX5) (N := 21) hc i_X5_set_5 0 rfl rfl 0 (by decide) m_X5_set_7 rfl dX5_set_40 ?_
      refine V_sipush hc dX5_set_43 (by decide) ?_
      refine V_iload_n hc dX5_set_46 1 rfl ?_
      refine V_iadd hc dX5_set_47 ?_
      refine V_iald hc 1 rfl (by decide) hv dX5_set_48 (fun hv => ?_)
      refine V_istore_n hc dX5_set_49 [(3, .int (iI (z (636 + x1).toNat))), (0, .ref hM), (1, .int (iI x1)), (2, .int (iI x2))] (by decide) rfl ?_
      refine V_aload_n hc dX5_set_50 1 rfl ?_
      refine V_get (C := RX5) (T := TX5) (N := 21) hc i_X5_set_5 0 rfl rfl 0 (by decide) m_X5_set_7 rfl dX5_set_51 ?_
      refine V_sipush hc dX5_set_54 (by decide) ?_
      refine V_iload_n hc dX5_set_57 2 rfl ?_
      refine V_iadd hc dX5_set_58 ?_
      refine V_iload_n hc dX5_set_59 3 rfl ?_
      refine V_iast hc 1 rfl (by decide) hv dX5_set_60 [oB hM 5 [.ref zA, .ref spA, .ref svA, .int (iI nsv_4), .ref soA, .ref ikA, .ref txA, .int (iI len), .int (iI thr_3), .int (iI nvi), .ref viA, .int (iI low), .int (iI high), .ref srA, .ref frA, .ref toA, .ref hoA, .ref keA, .int (iI nto), .int (iI spo), .int (iI mos)], aI t zA 646 (uI z ((636 + x1).toNat) x2), aI t spA 646 sp, aI t svA 3876 sv_4, aI t soA 1292 so, aZ t ikA 2 ik, aI t txA 60 tx, aI t viA 120 vi, aI t srA 120 sr, aI t frA 122 fr, aI t toA 122 to, aI t hoA 31 ho, aI t keA 31 ke] rfl (fun hv => ?_)
      refine V_iload_n hc dX5_set_61 0 rfl ?_
      exact V_iret hc hr (nsv_4, thr_3, uI z ((636 + x1).toNat) x2, sv_4) hv rfl dX5_set_62
    · refine V_iconst hc dX5_set_33 ?_
      exact V_iret hc hr (nsv, thr_3, z, sv) hv rfl dX5_set_34
  refine V_lv [0, 1, 2] [(0, .ref hM), (1, .int (iI x1)), (2, .int (iI x2))] rfl ?_
  unfold wp_X5_set at hv
  refine V_aload_n hc dX5_set_0 0 rfl ?_
  refine V_iload_n hc dX5_set_1 1 rfl ?_
  refine V_iconst hc dX5_set_2 ?_
  refine V_iconst hc dX5_set_3 ?_
  refine V_callSI (As := [.int (iI x1), .int (iI 0), .int (iI 2)]) hc (wc := []) (wr := [oB hM 5 [.ref zA, .ref spA, .ref svA, .int (iI nsv), .ref soA, .ref ikA, .ref txA, .int (iI len), .int (iI thr), .int (iI nvi), .ref viA, .int (iI low), .int (iI high), .ref srA, .ref frA, .ref toA, .ref hoA, .ref keA, .int (iI nto), .int (iI spo), .int (iI mos)], aI t zA 646 z, aI t spA 646 sp, aI t svA 3876 sv, aI t soA 1292 so, aZ t ikA 2 ik, aI t txA 60 tx, aI t viA 120 vi, aI t srA 120 sr, aI t frA 122 fr, aI t toA 122 to, aI t hoA 31 ho, aI t keA 31 ke]) (pmI [0, 1, 2, 3, 4, 5, 6, 7, 8, 9, 10, 11, 12] 13 rfl (by decide +kernel) rfl) (met_X5_in l D t x1 0 2 _ hv) rfl gX5_set_X5_in rfl ⟨rfl, rfl⟩ ok_X5_in (by decide) (Nat.le_of_ble_eq_true rfl) dX5_set_4 (by decide) (fun r_1 _ hv => ?_)
  try dsimp only at hv
  refine V_perm (ws1 := [oB hM 5 [.ref zA, .ref spA, .ref svA, .int (iI nsv), .ref soA, .ref ikA, .ref txA, .int (iI len), .int (iI thr), .int (iI nvi), .ref viA, .int (iI low), .int (iI high), .ref srA, .ref frA, .ref toA, .ref hoA, .ref keA, .int (iI nto), .int (iI spo), .int (iI mos)], aI t zA 646 z, aI t spA 646 sp, aI t svA 3876 sv, aI t soA 1292 so, aZ t ikA 2 ik, aI t txA 60 tx, aI t viA 120 vi, aI t srA 120 sr, aI t frA 122 fr, aI t toA 122 to, aI t hoA 31 ho, aI t keA 31 ke]) (pmI [0, 1, 2, 3, 4, 5, 6, 7, 8, 9, 10, 11, 12] 13 rfl (by decide +kernel) rfl) ?_
  refine V_if_ne (tgt := 14) hc dX5_set_7 (by decide) hv (fun hv => ?_) (fun hv => ?_)
  · refine V_iload_n hc dX5_set_14 1 rfl ?_
    refine V_iload_n hc dX5_set_15 2 rfl ?_
    refine V_callSI (As := [.int (iI x1), .int (iI x2)]) hc (wc := []) (wr := [oB hM 5 [.ref zA, .ref spA, .ref svA, .int (iI nsv), .ref soA, .ref ikA, .ref txA, .int (iI len), .int (iI thr), .int (iI nvi), .ref viA, .int (iI low), .int (iI high), .ref srA, .ref frA, .ref toA, .ref hoA, .ref keA, .int (iI nto), .int (iI spo), .int (iI mos)], aI t zA 646 z, aI t spA 646 sp, aI t svA 3876 sv, aI t soA 1292 so, aZ t ikA 2 ik, aI t txA 60 tx, aI t viA 120 vi, aI t srA 120 sr, aI t frA 122 fr, aI t toA 122 to, aI t hoA 31 ho, aI t keA 31 ke]) (pmI [0, 1, 2, 3, 4, 5, 6, 7, 8, 9, 10, 11, 12] 13 rfl (by decide +kernel) rfl) (met_X5_isValue l D t x1 x2 _ hv) rfl gX5_set_X5_isValue rfl ⟨rfl, rfl⟩ ok_X5_isValue (by decide) (Nat.le_of_ble_eq_true rfl) dX5_set_16 (by decide) (fun r_2 _ hv => ?_)
    try dsimp only at hv
    refine V_perm (ws1 := [oB hM 5 [.ref zA, .ref spA, .ref svA, .int (iI nsv), .ref soA, .ref ikA, .ref txA, .int (iI len), .int (iI thr), .int (iI nvi), .ref viA, .int (iI low), .int (iI high), .ref srA, .ref frA, .ref toA, .ref hoA, .ref keA, .int (iI nto), .int (iI spo), .int (iI mos)], aI t zA 646 z, aI t spA 646 sp, aI t svA 3876 sv, aI t soA 1292 so, aZ t ikA 2 ik, aI t txA 60 tx, aI t viA 120 vi, aI t srA 120 sr, aI t frA 122 fr, aI t toA 122 to, aI t hoA 31 ho, aI t keA 31 ke]) (pmI [0, 1, 2, 3, 4, 5, 6, 7, 8, 9, 10, 11, 12] 13 rfl (by decide +kernel) rfl) ?_
    refine V_if_eq (tgt := 26) hc dX5_set_19 (by decide) hv (fun hv => ?_) (fun hv => ?_)
    · refine V_iconst hc dX5_set_26 ?_
      exact C_27 nsv thr z sv x1 x2 2 hv
    · refine V_iconst hc dX5_set_22 ?_
      refine V_goto (tgt := 27) hc dX5_set_23 (by decide) ?_
      exact C_27 nsv thr z sv x1 x2 0 hv
  · refine V_iconst hc dX5_set_10 ?_
    refine V_goto (tgt := 27) hc dX5_set_11 (by decide) ?_
    exact C_27 nsv thr z sv x1 x2 1 hv
abbrev W1_X5_append (t : Nat → ClassId) (hM : Nat) (zA : Nat) (spA : Nat) (svA : Nat) (soA : Nat) (ikA : Nat) (txA : Nat) (viA : Nat) (srA : Nat) (frA : Nat) (toA : Nat) (hoA : Nat) (keA : Nat) (nsv : Int) (nvi : Int) (low : Int) (high : Int) (nto : Int) (spo : Int) (mos : Int) (z : Nat → Int) (sp : Nat → Int) (sv : Nat → Int) (so : Nat → Int) (ik : Nat → Int) (vi : Nat → Int) (sr : Nat → Int) (fr : Nat → Int) (to : Nat → Int) (ho : Nat → Int) (ke : Nat → Int) (u : (Int) × (Int) × (Nat → Int)) : va_W := [oB hM 5 [.ref zA, .ref spA, .ref svA, .int (iI nsv), .ref soA, .ref ikA, .ref txA, .int (iI u.1), .int (iI u.2.1), .int (iI nvi), .ref viA, .int (iI low), .int (iI high), .ref srA, .ref frA, .ref toA, .ref hoA, .ref keA, .int (iI nto), .int (iI spo), .int (iI mos)], aI t zA 646 z, aI t spA 646 sp, aI t svA 3876 sv, aI t soA 1292 so, aZ t ikA 2 ik, aI t txA 60 u.2.2, aI t viA 120 vi, aI t srA 120 sr, aI t frA 122 fr, aI t toA 122 to, aI t hoA 31 ho, aI t keA 31 ke]
abbrev po_X5_append (Q : Int → (Int) → (Int) → (Nat → Int) → Prop) (r : Int) (u : (Int) × (Int) × (Nat → Int)) : Prop := Q r u.1 u.2.1 u.2.2
abbrev rm_X5_append : Room := { frames := 1, cells := 0, slots := 0, locals := 22 }
def wp_X5_append_30 (len : Int) (thr : Int) (tx : Nat → Int) (x1 : Int) (s0 : Int) (Q : Int → (Int) → (Int) → (Nat → Int) → Prop) : Prop := wp_X5_refused thr s0 (fun r_2 thr_2 => inR r_2 ∧ (r_2 = 0 → (0 ≤ len ∧ len < 60) ∧ Q (len + 1) (len + 1) thr_2 (uI tx (len.toNat) x1)) ∧ (¬ (r_2 = 0) → Q 0 len thr_2 tx))
def wp_X5_append (len : Int) (thr : Int) (tx : Nat → Int) (x1 : Int) (Q : Int → (Int) → (Int) → (Nat → Int) → Prop) : Prop := wp_X5_in x1 33 126 (fun r_1 => inR r_1 ∧ (r_1 ≠ 0 → inR len ∧ (len ≠ 60 → wp_X5_append_30 len thr tx x1 0 Q) ∧ (¬ (len ≠ 60) → wp_X5_append_30 len thr tx x1 2 Q)) ∧ (¬ (r_1 ≠ 0) → wp_X5_append_30 len thr tx x1 1 Q))
theorem m_X5_append_137 : Cond.fieldLink RX5 137 "BackgroundRebuildModel" "length" "I" ∈ wsX5_append := by decide +kernel
theorem m_X5_append_26 : Cond.fieldLink RX5 26 "BackgroundRebuildModel" "text" "[I" ∈ wsX5_append := by decide +kernel
theorem i_X5_append_5 : ∀ w ∈ u_ws RX5 TX5 21, w ∈ wsX5_append := by decide +kernel
theorem ok_X5_append : yX5_append.cls = RX5 ∧ yX5_append.cls ≠ "java/lang/invoke/MethodHandle" ∧ yX5_append.cls ≠ "java/lang/invoke/VarHandle" ∧ (parseMethodDescriptor yX5_append.desc).map (fun d => d.parameters.length) = some 1 := by decide +kernel
set_option maxHeartbeats 4000000 in
set_option maxRecDepth 100000 in
theorem met_X5_append (l : Launch) (D : va_G) (t : Nat → ClassId) (hM : Nat) (zA : Nat) (spA : Nat) (svA : Nat) (soA : Nat) (ikA : Nat) (txA : Nat) (viA : Nat) (srA : Nat) (frA : Nat) (toA : Nat) (hoA : Nat) (keA : Nat) (nsv : Int) (len : Int) (thr : Int) (nvi : Int) (low : Int) (high : Int) (nto : Int) (spo : Int) (mos : Int) (z : Nat → Int) (sp : Nat → Int) (sv : Nat → Int) (so : Nat → Int) (ik : Nat → Int) (tx : Nat → Int) (vi : Nat → Int) (sr : Nat → Int) (fr : Nat → Int) (to : Nat → Int) (ho : Nat → Int) (ke : Nat → Int) (x1 : Int) (Q : Int → (Int) → (Int) → (Nat → Int) → Prop) (hv : wp_X5_append len thr tx x1 Q) : MI l D t yX5_append wsX5_append rm_X5_append [.ref hM, .int (iI x1)] [oB hM 5 [.ref zA, .ref spA, .ref svA, .int (iI nsv), .ref soA, .ref ikA, .ref txA, .int (iI len), .int (iI thr), .int (iI nvi), .ref viA, .int (iI low), .int (iI high), .ref srA, .ref frA, .ref toA, .ref hoA, .ref keA, .int (iI nto), .int (iI spo), .int (iI mos)], aI t zA 646 z, aI t spA 646 sp, aI t svA 3876 sv, aI t soA 1292 so, aZ t ikA 2 ik, aI t txA 60 tx, aI t viA 120 vi, aI t srA 120 sr, aI t frA 122 fr, aI t toA 122 to, aI t hoA 31 ho, aI t keA 31 ke] (W1_X5_append t hM zA spA svA soA ikA txA viA srA frA toA hoA keA nsv nvi low high nto spo mos z sp sv so ik vi sr fr to ho ke) (po_X5_append Q) 0 0 := by
  refine M_ofi (cc := cX5_append) (nL := 2) (by decide) rfl (Nat.le_of_ble_eq_true rfl) ?_
  intro p e s m args below meth c A hc hr
  have C_30 : ∀ (len : Int) (thr : Int) (tx : Nat → Int) (x1 : Int) (s0 : Int), wp_X5_append_30 len thr tx x1 s0 Q → V p l e rm_X5_append s m args below meth c D A 2 0 0 (MQ below (QI D A (W1_X5_append t hM zA spA svA soA ikA txA viA srA frA toA hoA keA nsv nvi low high nto spo mos z sp sv so ik vi sr fr to ho ke) (po_X5_append Q)) args s 0 0 A) 30 [(0, .ref hM), (1, .int (iI x1))] [.int (iI s0), .ref hM] [oB hM 5 [.ref zA, .ref spA, .ref svA, .int (iI nsv), .ref soA, .ref ikA, .ref txA, .int (iI len), .int (iI thr), .int (iI nvi), .ref viA, .int (iI low), .int (iI high), .ref srA, .ref frA, .ref toA, .ref hoA, .ref keA, .int (iI nto), .int (iI spo), .int (iI mos)], aI t zA 646 z, aI t spA 646 sp, aI t svA 3876 sv, aI t soA 1292 so, aZ t ikA 2 ik, aI t txA 60 tx, aI t viA 120 vi, aI t srA 120 sr, aI t frA 122 fr, aI t toA 122 to, aI t hoA 31 ho, aI t keA 31 ke] := by
    intro len thr tx x1 s0 hv
    unfold wp_X5_append_30 at hv
    refine V_callVI (As := [.int (iI s0)]) hc (wc := [oB hM 5 [.ref zA, .ref spA, .ref svA, .int (iI nsv), .ref soA, .ref ikA, .ref txA, .int (iI len), .int (iI thr), .int (iI nvi), .ref viA, .int (iI low), .int (iI high), .ref srA, .ref frA, .ref toA, .ref hoA, .ref keA, .int (iI nto), .int (iI spo), .int (iI mos)], aI t zA 646 z, aI t spA 646 sp, aI t svA 3876 sv, aI t soA 1292 so, aZ t ikA 2 ik, aI t txA 60 tx, aI t viA 120 vi, aI t srA 120 sr, aI t frA 122 fr, aI t toA 122 to, aI t hoA 31 ho, aI t keA 31 ke]) (wr := []) (pmI [0, 1, 2, 3, 4, 5, 6, 7, 8, 9, 10, 11, 12] 13 rfl (by decide +kernel) rfl) rfl rfl (met_X5_refused l D t hM zA spA svA soA ikA txA viA srA frA toA hoA keA nsv len thr nvi low high nto spo mos z sp sv so ik tx vi sr fr to ho ke s0 _ hv) rfl gX5_append_X5_refused rfl ⟨rfl, rfl⟩ ok_X5_refused (by decide) (Nat.le_of_ble_eq_true rfl) dX5_append_30 (by decide) (fun r_2 u9 hv => ?_)
    obtain ⟨thr_2, h9⟩ : ∃ z, z = u9 := ⟨_, rfl⟩
    subst h9
    try dsimp only at hv
    refine V_perm (ws1 := [oB hM 5 [.ref zA, .ref spA, .ref svA, .int (iI nsv), .ref soA, .ref ikA, .ref txA, .int (iI len), .int (iI thr_2), .int (iI nvi), .ref viA, .int (iI low), .int (iI high), .ref srA, .ref frA, .ref toA, .ref hoA, .ref keA, .int (iI nto), .int (iI spo), .int (iI mos)], aI t zA 646 z, aI t spA 646 sp, aI t svA 3876 sv, aI t soA 1292 so, aZ t ikA 2 ik, aI t txA 60 tx, aI t viA 120 vi, aI t srA 120 sr, aI t frA 122 fr, aI t toA 122 to, aI t hoA 31 ho, aI t keA 31 ke]) (pmI [0, 1, 2, 3, 4, 5, 6, 7, 8, 9, 10, 11, 12] 13 rfl (by decide +kernel) rfl) ?_
    refine V_if_eq (tgt := 38) hc dX5_append_33 (by decide) hv (fun hv => ?_) (fun hv => ?_)
    · refine V_aload_n hc dX5_append_38 0 rfl ?_
      refine V_get (C := RX5) (T := TX5) (N := 21) hc i_X5_append_5 0 rfl rfl 6 (by decide) m_X5_append_26 rfl dX5_append_39 ?_
      refine V_aload_n hc dX5_append_42 0 rfl ?_
      refine V_get (C := RX5) (T := TX5) (N := 21) hc i_X5_append_5 0 rfl rfl 7 (by decide) m_X5_append_137 rfl dX5_append_43 ?_
      refine V_iload_n hc dX5_append_46 1 rfl ?_
      refine V_iast hc 6 rfl (by decide) hv dX5_append_47 [oB hM 5 [.ref zA, .ref spA, .ref svA, .int (iI nsv), .ref soA, .ref ikA, .ref txA, .int (iI len), .int (iI thr_2), .int (iI nvi), .ref viA, .int (iI low), .int (iI high), .ref srA, .ref frA, .ref toA, .ref hoA, .ref keA, .int (iI nto), .int (iI spo), .int (iI mos)], aI t zA 646 z, aI t spA 646 sp, aI t svA 3876 sv, aI t soA 1292 so, aZ t ikA 2 ik, aI t txA 60 (uI tx (len.toNat) x1), aI t viA 120 vi, aI t srA 120 sr, aI t frA 122 fr, aI t toA 122 to, aI t hoA 31 ho, aI t keA 31 ke] rfl (fun hv => ?_)
      refine V_aload_n hc dX5_append_48 0 rfl ?_
      refine V_dup hc dX5_append_49 rfl ?_
      refine V_get (C := RX5) (T := TX5) (N := 21) hc i_X5_append_5 0 rfl rfl 7 (by decide) m_X5_append_137 rfl dX5_append_50 ?_
      refine V_iconst hc dX5_append_53 ?_
      refine V_iadd hc dX5_append_54 ?_
      refine V_puti (C := RX5) (T := TX5) (N := 21) hc i_X5_append_5 0 rfl rfl 7 (by decide) m_X5_append_137 tyX5 tyX5_ok nmX5 rfl (by decide +kernel) (Nat.le_of_ble_eq_true rfl) dX5_append_55 [oB hM 5 [.ref zA, .ref spA, .ref svA, .int (iI nsv), .ref soA, .ref ikA, .ref txA, .int (iI (len + 1)), .int (iI thr_2), .int (iI nvi), .ref viA, .int (iI low), .int (iI high), .ref srA, .ref frA, .ref toA, .ref hoA, .ref keA, .int (iI nto), .int (iI spo), .int (iI mos)], aI t zA 646 z, aI t spA 646 sp, aI t svA 3876 sv, aI t soA 1292 so, aZ t ikA 2 ik, aI t txA 60 (uI tx (len.toNat) x1), aI t viA 120 vi, aI t srA 120 sr, aI t frA 122 fr, aI t toA 122 to, aI t hoA 31 ho, aI t keA 31 ke] rfl ?_
      refine V_aload_n hc dX5_append_58 0 rfl ?_
      refine V_get (C := RX5) (T := TX5) (N := 21) hc i_X5_append_5 0 rfl rfl 7 (by decide) m_X5_append_137 rfl dX5_append_59 ?_
      exact V_iret hc hr (len + 1, thr_2, uI tx (len.toNat) x1) hv rfl dX5_append_62
    · refine V_iconst hc dX5_append_36 ?_
      exact V_iret hc hr (len, thr_2, tx) hv rfl dX5_append_37
  refine V_lv [0, 1] [(0, .ref hM), (1, .int (iI x1))] rfl ?_
  unfold wp_X5_append at hv
  refine V_aload_n hc dX5_append_0 0 rfl ?_
  refine V_iload_n hc dX5_append_1 1 rfl ?_
  refine V_bipush hc dX5_append_2 (by decide) ?_
  refine V_bipush hc dX5_append_4 (by decide) ?_
  refine V_callSI (As := [.int (iI x1), .int (iI 33), .int (iI 126)]) hc (wc := []) (wr := [oB hM 5 [.ref zA, .ref spA, .ref svA, .int (iI nsv), .ref soA, .ref ikA, .ref txA, .int (iI len), .int (iI thr), .int (iI nvi), .ref viA, .int (iI low), .int (iI high), .ref srA, .ref frA, .ref toA, .ref hoA, .ref keA, .int (iI nto), .int (iI spo), .int (iI mos)], aI t zA 646 z, aI t spA 646 sp, aI t svA 3876 sv, aI t soA 1292 so, aZ t ikA 2 ik, aI t txA 60 tx, aI t viA 120 vi, aI t srA 120 sr, aI t frA 122 fr, aI t toA 122 to, aI t hoA 31 ho, aI t keA 31 ke]) (pmI [0, 1, 2, 3, 4, 5, 6, 7, 8, 9, 10, 11, 12] 13 rfl (by decide +kernel) rfl) (met_X5_in l D t x1 33 126 _ hv) rfl gX5_append_X5_in rfl ⟨rfl, rfl⟩ ok_X5_in (by decide) (Nat.le_of_ble_eq_true rfl) dX5_append_6 (by decide) (fun r_1 _ hv => ?_)
  try dsimp only at hv
  refine V_perm (ws1 := [oB hM 5 [.ref zA, .ref spA, .ref svA, .int (iI nsv), .ref soA, .ref ikA, .ref txA, .int (iI len), .int (iI thr), .int (iI nvi), .ref viA, .int (iI low), .int (iI high), .ref srA, .ref frA, .ref toA, .ref hoA, .ref keA, .int (iI nto), .int (iI spo), .int (iI mos)], aI t zA 646 z, aI t spA 646 sp, aI t svA 3876 sv, aI t soA 1292 so, aZ t ikA 2 ik, aI t txA 60 tx, aI t viA 120 vi, aI t srA 120 sr, aI t frA 122 fr, aI t toA 122 to, aI t hoA 31 ho, aI t keA 31 ke]) (pmI [0, 1, 2, 3, 4, 5, 6, 7, 8, 9, 10, 11, 12] 13 rfl (by decide +kernel) rfl) ?_
  refine V_if_ne (tgt := 16) hc dX5_append_9 (by decide) hv (fun hv => ?_) (fun hv => ?_)
  · refine V_aload_n hc dX5_append_16 0 rfl ?_
    refine V_get (C := RX5) (T := TX5) (N := 21) hc i_X5_append_5 0 rfl rfl 7 (by decide) m_X5_append_137 rfl dX5_append_17 ?_
    refine V_bipush hc dX5_append_20 (by decide) ?_
    refine V_icmp_ne (tgt := 29) hc dX5_append_22 (by decide) ⟨hv.1, by decide, hv.2⟩ (fun hv => ?_) (fun hv => ?_)
    · refine V_iconst hc dX5_append_29 ?_
      exact C_30 len thr tx x1 0 hv
    · refine V_iconst hc dX5_append_25 ?_
      refine V_goto (tgt := 30) hc dX5_append_26 (by decide) ?_
      exact C_30 len thr tx x1 2 hv
  · refine V_iconst hc dX5_append_12 ?_
    refine V_goto (tgt := 30) hc dX5_append_13 (by decide) ?_
    exact C_30 len thr tx x1 1 hv
abbrev W1_X5_clearBuffer (t : Nat → ClassId) (hM : Nat) (zA : Nat) (spA : Nat) (svA : Nat) (soA : Nat) (ikA : Nat) (txA : Nat) (viA : Nat) (srA : Nat) (frA : Nat) (toA : Nat) (hoA : Nat) (keA : Nat) (nsv : Int) (nvi : Int) (low : Int) (high : Int) (nto : Int) (spo : Int) (mos : Int) (z : Nat → Int) (sp : Nat → Int) (sv : Nat → Int) (so : Nat → Int) (ik : Nat → Int) (tx : Nat → Int) (vi : Nat → Int) (sr : Nat → Int) (fr : Nat → Int) (to : Nat → Int) (ho : Nat → Int) (ke : Nat → Int) (u : (Int) × (Int)) : va_W := [oB hM 5 [.ref zA, .ref spA, .ref svA, .int (iI nsv), .ref soA, .ref ikA, .ref txA, .int (iI u.1), .int (iI u.2), .int (iI nvi), .ref viA, .int (iI low), .int (iI high), .ref srA, .ref frA, .ref toA, .ref hoA, .ref keA, .int (iI nto), .int (iI spo), .int (iI mos)], aI t zA 646 z, aI t spA 646 sp, aI t svA 3876 sv, aI t soA 1292 so, aZ t ikA 2 ik, aI t txA 60 tx, aI t viA 120 vi, aI t srA 120 sr, aI t frA 122 fr, aI t toA 122 to, aI t hoA 31 ho, aI t keA 31 ke]
abbrev po_X5_clearBuffer (Q : Int → (Int) → (Int) → Prop) (r : Int) (u : (Int) × (Int)) : Prop := Q r u.1 u.2
abbrev rm_X5_clearBuffer : Room := { frames := 0, cells := 0, slots := 0, locals := 0 }
def wp_X5_clearBuffer (len : Int) (thr : Int) (Q : Int → (Int) → (Int) → Prop) : Prop := Q len 0 0
theorem m_X5_clearBuffer_47 : Cond.fieldLink RX5 47 "BackgroundRebuildModel" "thrown" "I" ∈ wsX5_clearBuffer := by decide +kernel
theorem m_X5_clearBuffer_137 : Cond.fieldLink RX5 137 "BackgroundRebuildModel" "length" "I" ∈ wsX5_clearBuffer := by decide +kernel
theorem i_X5_clearBuffer_5 : ∀ w ∈ u_ws RX5 TX5 21, w ∈ wsX5_clearBuffer := by decide +kernel
theorem ok_X5_clearBuffer : yX5_clearBuffer.cls = RX5 ∧ yX5_clearBuffer.cls ≠ "java/lang/invoke/MethodHandle" ∧ yX5_clearBuffer.cls ≠ "java/lang/invoke/VarHandle" ∧ (parseMethodDescriptor yX5_clearBuffer.desc).map (fun d => d.parameters.length) = some 0 := by decide +kernel
set_option maxHeartbeats 4000000 in
set_option maxRecDepth 100000 in
theorem met_X5_clearBuffer (l : Launch) (D : va_G) (t : Nat → ClassId) (hM : Nat) (zA : Nat) (spA : Nat) (svA : Nat) (soA : Nat) (ikA : Nat) (txA : Nat) (viA : Nat) (srA : Nat) (frA : Nat) (toA : Nat) (hoA : Nat) (keA : Nat) (nsv : Int) (len : Int) (thr : Int) (nvi : Int) (low : Int) (high : Int) (nto : Int) (spo : Int) (mos : Int) (z : Nat → Int) (sp : Nat → Int) (sv : Nat → Int) (so : Nat → Int) (ik : Nat → Int) (tx : Nat → Int) (vi : Nat → Int) (sr : Nat → Int) (fr : Nat → Int) (to : Nat → Int) (ho : Nat → Int) (ke : Nat → Int) (Q : Int → (Int) → (Int) → Prop) (hv : wp_X5_clearBuffer len thr Q) : MI l D t yX5_clearBuffer wsX5_clearBuffer rm_X5_clearBuffer [.ref hM] [oB hM 5 [.ref zA, .ref spA, .ref svA, .int (iI nsv), .ref soA, .ref ikA, .ref txA, .int (iI len), .int (iI thr), .int (iI nvi), .ref viA, .int (iI low), .int (iI high), .ref srA, .ref frA, .ref toA, .ref hoA, .ref keA, .int (iI nto), .int (iI spo), .int (iI mos)], aI t zA 646 z, aI t spA 646 sp, aI t svA 3876 sv, aI t soA 1292 so, aZ t ikA 2 ik, aI t txA 60 tx, aI t viA 120 vi, aI t srA 120 sr, aI t frA 122 fr, aI t toA 122 to, aI t hoA 31 ho, aI t keA 31 ke] (W1_X5_clearBuffer t hM zA spA svA soA ikA txA viA srA frA toA hoA keA nsv nvi low high nto spo mos z sp sv so ik tx vi sr fr to ho ke) (po_X5_clearBuffer Q) 0 0 := by
  refine M_ofi (cc := cX5_clearBuffer) (nL := 2) (by decide) rfl (Nat.le_of_ble_eq_true rfl) ?_
  intro p e s m args below meth c A hc hr
  refine V_lv [0] [(0, .ref hM)] rfl ?_
  unfold wp_X5_clearBuffer at hv
  refine V_aload_n hc dX5_clearBuffer_0 0 rfl ?_
  refine V_iconst hc dX5_clearBuffer_1 ?_
  refine V_puti (C := RX5) (T := TX5) (N := 21) hc i_X5_clearBuffer_5 0 rfl rfl 8 (by decide) m_X5_clearBuffer_47 tyX5 tyX5_ok nmX5 rfl (by decide +kernel) (Nat.le_of_ble_eq_true rfl) dX5_clearBuffer_2 [oB hM 5 [.ref zA, .ref spA, .ref svA, .int (iI nsv), .ref soA, .ref ikA, .ref txA, .int (iI len), .int (iI 0), .int (iI nvi), .ref viA, .int (iI low), .int (iI high), .ref srA, .ref frA, .ref toA, .ref hoA, .ref keA, .int (iI nto), .int (iI spo), .int (iI mos)], aI t zA 646 z, aI t spA 646 sp, aI t svA 3876 sv, aI t soA 1292 so, aZ t ikA 2 ik, aI t txA 60 tx, aI t viA 120 vi, aI t srA 120 sr, aI t frA 122 fr, aI t toA 122 to, aI t hoA 31 ho, aI t keA 31 ke] rfl ?_
  refine V_aload_n hc dX5_clearBuffer_5 0 rfl ?_
  refine V_get (C := RX5) (T := TX5) (N := 21) hc i_X5_clearBuffer_5 0 rfl rfl 7 (by decide) m_X5_clearBuffer_137 rfl dX5_clearBuffer_6 ?_
  refine V_istore_n hc dX5_clearBuffer_9 [(1, .int (iI len)), (0, .ref hM)] (by decide) rfl ?_
  refine V_aload_n hc dX5_clearBuffer_10 1 rfl ?_
  refine V_iconst hc dX5_clearBuffer_11 ?_
  refine V_puti (C := RX5) (T := TX5) (N := 21) hc i_X5_clearBuffer_5 0 rfl rfl 7 (by decide) m_X5_clearBuffer_137 tyX5 tyX5_ok nmX5 rfl (by decide +kernel) (Nat.le_of_ble_eq_true rfl) dX5_clearBuffer_12 [oB hM 5 [.ref zA, .ref spA, .ref svA, .int (iI nsv), .ref soA, .ref ikA, .ref txA, .int (iI 0), .int (iI 0), .int (iI nvi), .ref viA, .int (iI low), .int (iI high), .ref srA, .ref frA, .ref toA, .ref hoA, .ref keA, .int (iI nto), .int (iI spo), .int (iI mos)], aI t zA 646 z, aI t spA 646 sp, aI t svA 3876 sv, aI t soA 1292 so, aZ t ikA 2 ik, aI t txA 60 tx, aI t viA 120 vi, aI t srA 120 sr, aI t frA 122 fr, aI t toA 122 to, aI t hoA 31 ho, aI t keA 31 ke] rfl ?_
  refine V_iload_n hc dX5_clearBuffer_15 0 rfl ?_
  exact V_iret hc hr (0, 0) hv rfl dX5_clearBuffer_16
abbrev W1_X5_sees (t : Nat → ClassId) (hM : Nat) (zA : Nat) (spA : Nat) (svA : Nat) (soA : Nat) (ikA : Nat) (txA : Nat) (viA : Nat) (srA : Nat) (frA : Nat) (toA : Nat) (hoA : Nat) (keA : Nat) (nsv : Int) (len : Int) (thr : Int) (nvi : Int) (low : Int) (high : Int) (nto : Int) (spo : Int) (mos : Int) (z : Nat → Int) (sp : Nat → Int) (sv : Nat → Int) (so : Nat → Int) (ik : Nat → Int) (tx : Nat → Int) (vi : Nat → Int) (sr : Nat → Int) (fr : Nat → Int) (to : Nat → Int) (ho : Nat → Int) (ke : Nat → Int) (u : Unit) : va_W := [oB hM 5 [.ref zA, .ref spA, .ref svA, .int (iI nsv), .ref soA, .ref ikA, .ref txA, .int (iI len), .int (iI thr), .int (iI nvi), .ref viA, .int (iI low), .int (iI high), .ref srA, .ref frA, .ref toA, .ref hoA, .ref keA, .int (iI nto), .int (iI spo), .int (iI mos)], aI t zA 646 z, aI t spA 646 sp, aI t svA 3876 sv, aI t soA 1292 so, aZ t ikA 2 ik, aI t txA 60 tx, aI t viA 120 vi, aI t srA 120 sr, aI t frA 122 fr, aI t toA 122 to, aI t hoA 31 ho, aI t keA 31 ke]
abbrev po_X5_sees (Q : Int → Prop) (r : Int) (u : Unit) : Prop := Q r
abbrev rm_X5_sees : Room := { frames := 1, cells := 0, slots := 0, locals := 22 }
def wp_X5_sees (len : Int) (spo : Int) (tx : Nat → Int) (x1 : Int) (x2 : Int) (Q : Int → Prop) : Prop := inR spo ∧ inR len ∧ (spo ≥ len → Q 0) ∧ (¬ (spo ≥ len) → (0 ≤ spo ∧ spo < 60) ∧ wp_X5_in (tx spo.toNat) x1 x2 (fun r_1 => inR r_1 ∧ (r_1 = 0 → Q 0) ∧ (¬ (r_1 = 0) → Q 1)))
theorem m_X5_sees_140 : Cond.fieldLink RX5 140 "BackgroundRebuildModel" "spot" "I" ∈ wsX5_sees := by decide +kernel
theorem m_X5_sees_137 : Cond.fieldLink RX5 137 "BackgroundRebuildModel" "length" "I" ∈ wsX5_sees := by decide +kernel
theorem m_X5_sees_26 : Cond.fieldLink RX5 26 "BackgroundRebuildModel" "text" "[I" ∈ wsX5_sees := by decide +kernel
theorem i_X5_sees_5 : ∀ w ∈ u_ws RX5 TX5 21, w ∈ wsX5_sees := by decide +kernel
theorem ok_X5_sees : yX5_sees.cls = RX5 ∧ yX5_sees.cls ≠ "java/lang/invoke/MethodHandle" ∧ yX5_sees.cls ≠ "java/lang/invoke/VarHandle" ∧ (parseMethodDescriptor yX5_sees.desc).map (fun d => d.parameters.length) = some 2 := by decide +kernel
set_option maxHeartbeats 4000000 in
set_option maxRecDepth 100000 in
theorem met_X5_sees (l : Launch) (D : va_G) (t : Nat → ClassId) (hM : Nat) (zA : Nat) (spA : Nat) (svA : Nat) (soA : Nat) (ikA : Nat) (txA : Nat) (viA : Nat) (srA : Nat) (frA : Nat) (toA : Nat) (hoA : Nat) (keA : Nat) (nsv : Int) (len : Int) (thr : Int) (nvi : Int) (low : Int) (high : Int) (nto : Int) (spo : Int) (mos : Int) (z : Nat → Int) (sp : Nat → Int) (sv : Nat → Int) (so : Nat → Int) (ik : Nat → Int) (tx : Nat → Int) (vi : Nat → Int) (sr : Nat → Int) (fr : Nat → Int) (to : Nat → Int) (ho : Nat → Int) (ke : Nat → Int) (x1 : Int) (x2 : Int) (Q : Int → Prop) (hv : wp_X5_sees len spo tx x1 x2 Q) : MI l D t yX5_sees wsX5_sees rm_X5_sees [.ref hM, .int (iI x1), .int (iI x2)] [oB hM 5 [.ref zA, .ref spA, .ref svA, .int (iI nsv), .ref soA, .ref ikA, .ref txA, .int (iI len), .int (iI thr), .int (iI nvi), .ref viA, .int (iI low), .int (iI high), .ref srA, .ref frA, .ref toA, .ref hoA, .ref keA, .int (iI nto), .int (iI spo), .int (iI mos)], aI t zA 646 z, aI t spA 646 sp, aI t svA 3876 sv, aI t soA 1292 so, aZ t ikA 2 ik, aI t txA 60 tx, aI t viA 120 vi, aI t srA 120 sr, aI t frA 122 fr, aI t toA 122 to, aI t hoA 31 ho, aI t keA 31 ke] (W1_X5_sees t hM zA spA svA soA ikA txA viA srA frA toA hoA keA nsv len thr nvi low high nto spo mos z sp sv so ik tx vi sr fr to ho ke) (po_X5_sees Q) 0 0 := by
  refine M_ofz (cc := cX5_sees) (nL := 3) (by decide) rfl (Nat.le_of_ble_eq_true rfl) ?_
  intro p e s m args below meth c A hc hr
  refine V_lv [0, 1, 2] [(0, .ref hM), (1, .int (iI x1)), (2, .int (iI x2))] rfl ?_
  unfold wp_X5_sees at hv
  refine V_aload_n hc dX5_sees_0 0 rfl ?_
  refine V_get (C := RX5) (T := TX5) (N := 21) hc i_X5_sees_5 0 rfl rfl 19 (by decide) m_X5_sees_140 rfl dX5_sees_1 ?_
  refine V_aload_n hc dX5_sees_4 0 rfl ?_
  refine V_get (C := RX5) (T := TX5) (N := 21) hc i_X5_sees_5 0 rfl rfl 7 (by decide) m_X5_sees_137 rfl dX5_sees_5 ?_
  refine V_icmp_ge (tgt := 32) hc dX5_sees_8 (by decide) hv (fun hv => ?_) (fun hv => ?_)
  · refine V_iconst hc dX5_sees_32 ?_
    exact V_zret hc hr () ⟨by decide, hv⟩ rfl dX5_sees_33
  · refine V_aload_n hc dX5_sees_11 0 rfl ?_
    refine V_get (C := RX5) (T := TX5) (N := 21) hc i_X5_sees_5 0 rfl rfl 6 (by decide) m_X5_sees_26 rfl dX5_sees_12 ?_
    refine V_aload_n hc dX5_sees_15 0 rfl ?_
    refine V_get (C := RX5) (T := TX5) (N := 21) hc i_X5_sees_5 0 rfl rfl 19 (by decide) m_X5_sees_140 rfl dX5_sees_16 ?_
    refine V_iald hc 6 rfl (by decide) hv dX5_sees_19 (fun hv => ?_)
    refine V_iload_n hc dX5_sees_20 1 rfl ?_
    refine V_iload_n hc dX5_sees_21 2 rfl ?_
    refine V_callSI (As := [.int (iI (tx spo.toNat)), .int (iI x1), .int (iI x2)]) hc (wc := []) (wr := [oB hM 5 [.ref zA, .ref spA, .ref svA, .int (iI nsv), .ref soA, .ref ikA, .ref txA, .int (iI len), .int (iI thr), .int (iI nvi), .ref viA, .int (iI low), .int (iI high), .ref srA, .ref frA, .ref toA, .ref hoA, .ref keA, .int (iI nto), .int (iI spo), .int (iI mos)], aI t zA 646 z, aI t spA 646 sp, aI t svA 3876 sv, aI t soA 1292 so, aZ t ikA 2 ik, aI t txA 60 tx, aI t viA 120 vi, aI t srA 120 sr, aI t frA 122 fr, aI t toA 122 to, aI t hoA 31 ho, aI t keA 31 ke]) (pmI [0, 1, 2, 3, 4, 5, 6, 7, 8, 9, 10, 11, 12] 13 rfl (by decide +kernel) rfl) (met_X5_in l D t (tx spo.toNat) x1 x2 _ hv) rfl gX5_sees_X5_in rfl ⟨rfl, rfl⟩ ok_X5_in (by decide) (Nat.le_of_ble_eq_true rfl) dX5_sees_22 (by decide) (fun r_1 _ hv => ?_)
    try dsimp only at hv
    refine V_perm (ws1 := [oB hM 5 [.ref zA, .ref spA, .ref svA, .int (iI nsv), .ref soA, .ref ikA, .ref txA, .int (iI len), .int (iI thr), .int (iI nvi), .ref viA, .int (iI low), .int (iI high), .ref srA, .ref frA, .ref toA, .ref hoA, .ref keA, .int (iI nto), .int (iI spo), .int (iI mos)], aI t zA 646 z, aI t spA 646 sp, aI t svA 3876 sv, aI t soA 1292 so, aZ t ikA 2 ik, aI t txA 60 tx, aI t viA 120 vi, aI t srA 120 sr, aI t frA 122 fr, aI t toA 122 to, aI t hoA 31 ho, aI t keA 31 ke]) (pmI [0, 1, 2, 3, 4, 5, 6, 7, 8, 9, 10, 11, 12] 13 rfl (by decide +kernel) rfl) ?_
    refine V_if_eq (tgt := 32) hc dX5_sees_25 (by decide) hv (fun hv => ?_) (fun hv => ?_)
    · refine V_iconst hc dX5_sees_32 ?_
      exact V_zret hc hr () ⟨by decide, hv⟩ rfl dX5_sees_33
    · refine V_iconst hc dX5_sees_28 ?_
      refine V_goto (tgt := 33) hc dX5_sees_29 (by decide) ?_
      exact V_zret hc hr () ⟨by decide, hv⟩ rfl dX5_sees_33
abbrev W1_X5_takes (t : Nat → ClassId) (hM : Nat) (zA : Nat) (spA : Nat) (svA : Nat) (soA : Nat) (ikA : Nat) (txA : Nat) (viA : Nat) (srA : Nat) (frA : Nat) (toA : Nat) (hoA : Nat) (keA : Nat) (nsv : Int) (len : Int) (thr : Int) (nvi : Int) (low : Int) (high : Int) (nto : Int) (mos : Int) (z : Nat → Int) (sp : Nat → Int) (sv : Nat → Int) (so : Nat → Int) (ik : Nat → Int) (tx : Nat → Int) (vi : Nat → Int) (sr : Nat → Int) (fr : Nat → Int) (to : Nat → Int) (ho : Nat → Int) (ke : Nat → Int) (u : (Int)) : va_W := [oB hM 5 [.ref zA, .ref spA, .ref svA, .int (iI nsv), .ref soA, .ref ikA, .ref txA, .int (iI len), .int (iI thr), .int (iI nvi), .ref viA, .int (iI low), .int (iI high), .ref srA, .ref frA, .ref toA, .ref hoA, .ref keA, .int (iI nto), .int (iI u), .int (iI mos)], aI t zA 646 z, aI t spA 646 sp, aI t svA 3876 sv, aI t soA 1292 so, aZ t ikA 2 ik, aI t txA 60 tx, aI t viA 120 vi, aI t srA 120 sr, aI t frA 122 fr, aI t toA 122 to, aI t hoA 31 ho, aI t keA 31 ke]
abbrev po_X5_takes (Q : Int → (Int) → Prop) (r : Int) (u : (Int)) : Prop := Q r u
abbrev rm_X5_takes : Room := { frames := 2, cells := 0, slots := 0, locals := 44 }
def wp_X5_takes (len : Int) (spo : Int) (tx : Nat → Int) (x1 : Int) (Q : Int → (Int) → Prop) : Prop := wp_X5_sees len spo tx x1 x1 (fun r_1 => inR r_1 ∧ (r_1 = 0 → (r_1 = 0 ∨ r_1 = 1) ∧ Q r_1 (spo + 0)) ∧ (¬ (r_1 = 0) → (r_1 = 0 ∨ r_1 = 1) ∧ Q r_1 (spo + 1)))
theorem m_X5_takes_140 : Cond.fieldLink RX5 140 "BackgroundRebuildModel" "spot" "I" ∈ wsX5_takes := by decide +kernel
theorem i_X5_takes_5 : ∀ w ∈ u_ws RX5 TX5 21, w ∈ wsX5_takes := by decide +kernel
theorem ok_X5_takes : yX5_takes.cls = RX5 ∧ yX5_takes.cls ≠ "java/lang/invoke/MethodHandle" ∧ yX5_takes.cls ≠ "java/lang/invoke/VarHandle" ∧ (parseMethodDescriptor yX5_takes.desc).map (fun d => d.parameters.length) = some 1 := by decide +kernel
set_option maxHeartbeats 4000000 in
set_option maxRecDepth 100000 in
theorem met_X5_takes (l : Launch) (D : va_G) (t : Nat → ClassId) (hM : Nat) (zA : Nat) (spA : Nat) (svA : Nat) (soA : Nat) (ikA : Nat) (txA : Nat) (viA : Nat) (srA : Nat) (frA : Nat) (toA : Nat) (hoA : Nat) (keA : Nat) (nsv : Int) (len : Int) (thr : Int) (nvi : Int) (low : Int) (high : Int) (nto : Int) (spo : Int) (mos : Int) (z : Nat → Int) (sp : Nat → Int) (sv : Nat → Int) (so : Nat → Int) (ik : Nat → Int) (tx : Nat → Int) (vi : Nat → Int) (sr : Nat → Int) (fr : Nat → Int) (to : Nat → Int) (ho : Nat → Int) (ke : Nat → Int) (x1 : Int) (Q : Int → (Int) → Prop) (hv : wp_X5_takes len spo tx x1 Q) : MI l D t yX5_takes wsX5_takes rm_X5_takes [.ref hM, .int (iI x1)] [oB hM 5 [.ref zA, .ref spA, .ref svA, .int (iI nsv), .ref soA, .ref ikA, .ref txA, .int (iI len), .int (iI thr), .int (iI nvi), .ref viA, .int (iI low), .int (iI high), .ref srA, .ref frA, .ref toA, .ref hoA, .ref keA, .int (iI nto), .int (iI spo), .int (iI mos)], aI t zA 646 z, aI t spA 646 sp, aI t svA 3876 sv, aI t soA 1292 so, aZ t ikA 2 ik, aI t txA 60 tx, aI t viA 120 vi, aI t srA 120 sr, aI t frA 122 fr, aI t toA 122 to, aI t hoA 31 ho, aI t keA 31 ke] (W1_X5_takes t hM zA spA svA soA ikA txA viA srA frA toA hoA keA nsv len thr nvi low high nto mos z sp sv so ik tx vi sr fr to ho ke) (po_X5_takes Q) 0 0 := by
  refine M_ofz (cc := cX5_takes) (nL := 3) (by decide) rfl (Nat.le_of_ble_eq_true rfl) ?_
  intro p e s m args below meth c A hc hr
  refine V_lv [0, 1] [(0, .ref hM), (1, .int (iI x1))] rfl ?_
  unfold wp_X5_takes at hv
  refine V_aload_n hc dX5_takes_0 0 rfl ?_
  refine V_iload_n hc dX5_takes_1 1 rfl ?_
  refine V_iload_n hc dX5_takes_2 1 rfl ?_
  refine V_callVI (As := [.int (iI x1), .int (iI x1)]) hc (wc := [oB hM 5 [.ref zA, .ref spA, .ref svA, .int (iI nsv), .ref soA, .ref ikA, .ref txA, .int (iI len), .int (iI thr), .int (iI nvi), .ref viA, .int (iI low), .int (iI high), .ref srA, .ref frA, .ref toA, .ref hoA, .ref keA, .int (iI nto), .int (iI spo), .int (iI mos)], aI t zA 646 z, aI t spA 646 sp, aI t svA 3876 sv, aI t soA 1292 so, aZ t ikA 2 ik, aI t txA 60 tx, aI t viA 120 vi, aI t srA 120 sr, aI t frA 122 fr, aI t toA 122 to, aI t hoA 31 ho, aI t keA 31 ke]) (wr := []) (pmI [0, 1, 2, 3, 4, 5, 6, 7, 8, 9, 10, 11, 12] 13 rfl (by decide +kernel) rfl) rfl rfl (met_X5_sees l D t hM zA spA svA soA ikA txA viA srA frA toA hoA keA nsv len thr nvi low high nto spo mos z sp sv so ik tx vi sr fr to ho ke x1 x1 _ hv) rfl gX5_takes_X5_sees rfl ⟨rfl, rfl⟩ ok_X5_sees (by decide) (Nat.le_of_ble_eq_true rfl) dX5_takes_3 (by decide) (fun r_1 _ hv => ?_)
  try dsimp only at hv
  refine V_perm (ws1 := [oB hM 5 [.ref zA, .ref spA, .ref svA, .int (iI nsv), .ref soA, .ref ikA, .ref txA, .int (iI len), .int (iI thr), .int (iI nvi), .ref viA, .int (iI low), .int (iI high), .ref srA, .ref frA, .ref toA, .ref hoA, .ref keA, .int (iI nto), .int (iI spo), .int (iI mos)], aI t zA 646 z, aI t spA 646 sp, aI t svA 3876 sv, aI t soA 1292 so, aZ t ikA 2 ik, aI t txA 60 tx, aI t viA 120 vi, aI t srA 120 sr, aI t frA 122 fr, aI t toA 122 to, aI t hoA 31 ho, aI t keA 31 ke]) (pmI [0, 1, 2, 3, 4, 5, 6, 7, 8, 9, 10, 11, 12] 13 rfl (by decide +kernel) rfl) ?_
  refine V_istore_n hc dX5_takes_6 [(2, .int (iI r_1)), (0, .ref hM), (1, .int (iI x1))] (by decide) rfl ?_
  refine V_aload_n hc dX5_takes_7 1 rfl ?_
  refine V_dup hc dX5_takes_8 rfl ?_
  refine V_get (C := RX5) (T := TX5) (N := 21) hc i_X5_takes_5 0 rfl rfl 19 (by decide) m_X5_takes_140 rfl dX5_takes_9 ?_
  refine V_iload_n hc dX5_takes_12 0 rfl ?_
  refine V_if_eq (tgt := 20) hc dX5_takes_13 (by decide) hv (fun hv => ?_) (fun hv => ?_)
  · refine V_iconst hc dX5_takes_20 ?_
    refine V_iadd hc dX5_takes_21 ?_
    refine V_puti (C := RX5) (T := TX5) (N := 21) hc i_X5_takes_5 0 rfl rfl 19 (by decide) m_X5_takes_140 tyX5 tyX5_ok nmX5 rfl (by decide +kernel) (Nat.le_of_ble_eq_true rfl) dX5_takes_22 [oB hM 5 [.ref zA, .ref spA, .ref svA, .int (iI nsv), .ref soA, .ref ikA, .ref txA, .int (iI len), .int (iI thr), .int (iI nvi), .ref viA, .int (iI low), .int (iI high), .ref srA, .ref frA, .ref toA, .ref hoA, .ref keA, .int (iI nto), .int (iI (spo + 0)), .int (iI mos)], aI t zA 646 z, aI t spA 646 sp, aI t svA 3876 sv, aI t soA 1292 so, aZ t ikA 2 ik, aI t txA 60 tx, aI t viA 120 vi, aI t srA 120 sr, aI t frA 122 fr, aI t toA 122 to, aI t hoA 31 ho, aI t keA 31 ke] rfl ?_
    refine V_iload_n hc dX5_takes_25 0 rfl ?_
    exact V_zret hc hr (spo + 0) hv rfl dX5_takes_26
  · refine V_iconst hc dX5_takes_16 ?_
    refine V_goto (tgt := 21) hc dX5_takes_17 (by decide) ?_
    refine V_iadd hc dX5_takes_21 ?_
    refine V_puti (C := RX5) (T := TX5) (N := 21) hc i_X5_takes_5 0 rfl rfl 19 (by decide) m_X5_takes_140 tyX5 tyX5_ok nmX5 rfl (by decide +kernel) (Nat.le_of_ble_eq_true rfl) dX5_takes_22 [oB hM 5 [.ref zA, .ref spA, .ref svA, .int (iI nsv), .ref soA, .ref ikA, .ref txA, .int (iI len), .int (iI thr), .int (iI nvi), .ref viA, .int (iI low), .int (iI high), .ref srA, .ref frA, .ref toA, .ref hoA, .ref keA, .int (iI nto), .int (iI (spo + 1)), .int (iI mos)], aI t zA 646 z, aI t spA 646 sp, aI t svA 3876 sv, aI t soA 1292 so, aZ t ikA 2 ik, aI t txA 60 tx, aI t viA 120 vi, aI t srA 120 sr, aI t frA 122 fr, aI t toA 122 to, aI t hoA 31 ho, aI t keA 31 ke] rfl ?_
    refine V_iload_n hc dX5_takes_25 0 rfl ?_
    exact V_zret hc hr (spo + 1) hv rfl dX5_takes_26
abbrev W1_X5_readKey (t : Nat → ClassId) (hM : Nat) (zA : Nat) (spA : Nat) (svA : Nat) (soA : Nat) (ikA : Nat) (txA : Nat) (viA : Nat) (srA : Nat) (frA : Nat) (toA : Nat) (hoA : Nat) (keA : Nat) (nsv : Int) (len : Int) (thr : Int) (nvi : Int) (low : Int) (high : Int) (nto : Int) (mos : Int) (z : Nat → Int) (sp : Nat → Int) (sv : Nat → Int) (so : Nat → Int) (ik : Nat → Int) (tx : Nat → Int) (vi : Nat → Int) (sr : Nat → Int) (fr : Nat → Int) (to : Nat → Int) (ho : Nat → Int) (ke : Nat → Int) (u : (Int)) : va_W := [oB hM 5 [.ref zA, .ref spA, .ref svA, .int (iI nsv), .ref soA, .ref ikA, .ref txA, .int (iI len), .int (iI thr), .int (iI nvi), .ref viA, .int (iI low), .int (iI high), .ref srA, .ref frA, .ref toA, .ref hoA, .ref keA, .int (iI nto), .int (iI u), .int (iI mos)], aI t zA 646 z, aI t spA 646 sp, aI t svA 3876 sv, aI t soA 1292 so, aZ t ikA 2 ik, aI t txA 60 tx, aI t viA 120 vi, aI t srA 120 sr, aI t frA 122 fr, aI t toA 122 to, aI t hoA 31 ho, aI t keA 31 ke]
abbrev po_X5_readKey (Q : Int → (Int) → Prop) (r : Int) (u : (Int)) : Prop := Q r u
abbrev rm_X5_readKey : Room := { frames := 2, cells := 0, slots := 0, locals := 44 }
def wp_X5_readKey_82 (len : Int) (spo : Int) (tx : Nat → Int) (s0 : Int) (Q : Int → (Int) → Prop) (K_2 : (Int) → Int → Prop) : Prop := K_2 (spo + 1) s0
def wp_X5_readKey_45 (len : Int) (spo : Int) (tx : Nat → Int) (x1 : Int) (Q : Int → (Int) → Prop) (K_2 : (Int) → Int → Prop) : Prop := inR x1 ∧ (x1 ≠ (-1) → (0 ≤ spo ∧ spo < 60) ∧ wp_X5_readKey_82 len spo tx (((10 * x1) + (tx spo.toNat)) - 48) Q K_2) ∧ (¬ (x1 ≠ (-1)) → (0 ≤ spo ∧ spo < 60) ∧ wp_X5_readKey_82 len spo tx ((tx spo.toNat) - 48) Q K_2)
def wp_X5_readKey_2 (len : Int) (tx : Nat → Int) (Q : Int → (Int) → Prop) (K_2 : (Int) → Int → Prop) (spo : Int) (x1 : Int) : Prop := wp_X5_sees len spo tx 48 57 (fun r_1 => inR r_1 ∧ (r_1 = 0 → Q x1 spo) ∧ (¬ (r_1 = 0) → inR x1 ∧ (x1 = (-1) → wp_X5_readKey_45 len spo tx x1 Q K_2) ∧ (¬ (x1 = (-1)) → inR x1 ∧ (x1 ≤ 0 → Q x1 spo) ∧ (¬ (x1 ≤ 0) → (0 ≤ spo ∧ spo < 60) ∧ inR (((10 * x1) + (tx spo.toNat)) - 48) ∧ (((10 * x1) + (tx spo.toNat)) - 48 ≥ 500 → Q x1 spo) ∧ (¬ (((10 * x1) + (tx spo.toNat)) - 48 ≥ 500) → wp_X5_readKey_45 len spo tx x1 Q K_2)))))
def wp_X5_readKey (len : Int) (spo : Int) (tx : Nat → Int) (Q : Int → (Int) → Prop) : Prop := (∃ n, lq2 (wp_X5_readKey_2 len tx Q) n spo (-1))
theorem m_X5_readKey_26 : Cond.fieldLink RX5 26 "BackgroundRebuildModel" "text" "[I" ∈ wsX5_readKey := by decide +kernel
theorem m_X5_readKey_140 : Cond.fieldLink RX5 140 "BackgroundRebuildModel" "spot" "I" ∈ wsX5_readKey := by decide +kernel
theorem i_X5_readKey_5 : ∀ w ∈ u_ws RX5 TX5 21, w ∈ wsX5_readKey := by decide +kernel
theorem ok_X5_readKey : yX5_readKey.cls = RX5 ∧ yX5_readKey.cls ≠ "java/lang/invoke/MethodHandle" ∧ yX5_readKey.cls ≠ "java/lang/invoke/VarHandle" ∧ (parseMethodDescriptor yX5_readKey.desc).map (fun d => d.parameters.length) = some 0 := by decide +kernel
set_option maxHeartbeats 4000000 in
set_option maxRecDepth 100000 in
theorem met_X5_readKey (l : Launch) (D : va_G) (t : Nat → ClassId) (hM : Nat) (zA : Nat) (spA : Nat) (svA : Nat) (soA : Nat) (ikA : Nat) (txA : Nat) (viA : Nat) (srA : Nat) (frA : Nat) (toA : Nat) (hoA : Nat) (keA : Nat) (nsv : Int) (len : Int) (thr : Int) (nvi : Int) (low : Int) (high : Int) (nto : Int) (spo : Int) (mos : Int) (z : Nat → Int) (sp : Nat → Int) (sv : Nat → Int) (so : Nat → Int) (ik : Nat → Int) (tx : Nat → Int) (vi : Nat → Int) (sr : Nat → Int) (fr : Nat → Int) (to : Nat → Int) (ho : Nat → Int) (ke : Nat → Int) (Q : Int → (Int) → Prop) (hv : wp_X5_readKey len spo tx Q) : MI l D t yX5_readKey wsX5_readKey rm_X5_readKey [.ref hM] [oB hM 5 [.ref zA, .ref spA, .ref svA, .int (iI nsv), .ref soA, .ref ikA, .ref txA, .int (iI len), .int (iI thr), .int (iI nvi), .ref viA, .int (iI low), .int (iI high), .ref srA, .ref frA, .ref toA, .ref hoA, .ref keA, .int (iI nto), .int (iI spo), .int (iI mos)], aI t zA 646 z, aI t spA 646 sp, aI t svA 3876 sv, aI t soA 1292 so, aZ t ikA 2 ik, aI t txA 60 tx, aI t viA 120 vi, aI t srA 120 sr, aI t frA 122 fr, aI t toA 122 to, aI t hoA 31 ho, aI t keA 31 ke] (W1_X5_readKey t hM zA spA svA soA ikA txA viA srA frA toA hoA keA nsv len thr nvi low high nto mos z sp sv so ik tx vi sr fr to ho ke) (po_X5_readKey Q) 0 0 := by
  refine M_ofi (cc := cX5_readKey) (nL := 2) (by decide) rfl (Nat.le_of_ble_eq_true rfl) ?_
  intro p e s m args below meth c A hc hr
  have C_82 : ∀ (len : Int) (spo : Int) (tx : Nat → Int) (s0 : Int) (K_2 : (Int) → Int → Prop) (hK_2 : ∀ (spo : Int) (x1 : Int), K_2 spo x1 → V p l e rm_X5_readKey s m args below meth c D A 2 0 0 (MQ below (QI D A (W1_X5_readKey t hM zA spA svA soA ikA txA viA srA frA toA hoA keA nsv len thr nvi low high nto mos z sp sv so ik tx vi sr fr to ho ke) (po_X5_readKey Q)) args s 0 0 A) 2 [(0, .ref hM), (1, .int (iI x1))] [] [oB hM 5 [.ref zA, .ref spA, .ref svA, .int (iI nsv), .ref soA, .ref ikA, .ref txA, .int (iI len), .int (iI thr), .int (iI nvi), .ref viA, .int (iI low), .int (iI high), .ref srA, .ref frA, .ref toA, .ref hoA, .ref keA, .int (iI nto), .int (iI spo), .int (iI mos)], aI t zA 646 z, aI t spA 646 sp, aI t svA 3876 sv, aI t soA 1292 so, aZ t ikA 2 ik, aI t txA 60 tx, aI t viA 120 vi, aI t srA 120 sr, aI t frA 122 fr, aI t toA 122 to, aI t hoA 31 ho, aI t keA 31 ke]), wp_X5_readKey_82 len spo tx s0 Q K_2 → V p l e rm_X5_readKey s m args below meth c D A 2 0 0 (MQ below (QI D A (W1_X5_readKey t hM zA spA svA soA ikA txA viA srA frA toA hoA keA nsv len thr nvi low high nto mos z sp sv so ik tx vi sr fr to ho ke) (po_X5_readKey Q)) args s 0 0 A) 82 [(0, .ref hM)] [.int (iI s0)] [oB hM 5 [.ref zA, .ref spA, .ref svA, .int (iI nsv), .ref soA, .ref ikA, .ref txA, .int (iI len), .int (iI thr), .int (iI nvi), .ref viA, .int (iI low), .int (iI high), .ref srA, .ref frA, .ref toA, .ref hoA, .ref keA, .int (iI nto), .int (iI spo), .int (iI mos)], aI t zA 646 z, aI t spA 646 sp, aI t svA 3876 sv, aI t soA 1292 so, aZ t ikA 2 ik, aI t txA 60 tx, aI t viA 120 vi, aI t srA 120 sr, aI t frA 122 fr, aI t toA 122 to, aI t hoA 31 ho, aI t keA 31 ke] := by
    intro len spo tx s0 K_2 hK_2 hv
    unfold wp_X5_readKey_82 at hv
    refine V_istore_n hc dX5_readKey_82 [(1, .int (iI s0)), (0, .ref hM)] (by decide) rfl ?_
    refine V_aload_n hc dX5_readKey_83 1 rfl ?_
    refine V_dup hc dX5_readKey_84 rfl ?_
    refine V_get (C := RX5) (T := TX5) (N := 21) hc i_X5_readKey_5 0 rfl rfl 19 (by decide) m_X5_readKey_140 rfl dX5_readKey_85 ?_
    refine V_iconst hc dX5_readKey_88 ?_
    refine V_iadd hc dX5_readKey_89 ?_
    refine V_puti (C := RX5) (T := TX5) (N := 21) hc i_X5_readKey_5 0 rfl rfl 19 (by decide) m_X5_readKey_140 tyX5 tyX5_ok nmX5 rfl (by decide +kernel) (Nat.le_of_ble_eq_true rfl) dX5_readKey_90 [oB hM 5 [.ref zA, .ref spA, .ref svA, .int (iI nsv), .ref soA, .ref ikA, .ref txA, .int (iI len), .int (iI thr), .int (iI nvi), .ref viA, .int (iI low), .int (iI high), .ref srA, .ref frA, .ref toA, .ref hoA, .ref keA, .int (iI nto), .int (iI (spo + 1)), .int (iI mos)], aI t zA 646 z, aI t spA 646 sp, aI t svA 3876 sv, aI t soA 1292 so, aZ t ikA 2 ik, aI t txA 60 tx, aI t viA 120 vi, aI t srA 120 sr, aI t frA 122 fr, aI t toA 122 to, aI t hoA 31 ho, aI t keA 31 ke] rfl ?_
    refine V_goto (tgt := 2) hc dX5_readKey_93 (by decide) ?_
    refine V_lv [1, 0] [(0, .ref hM), (1, .int (iI s0))] rfl ?_
    exact hK_2 (spo + 1) s0 hv
  have C_45 : ∀ (len : Int) (spo : Int) (tx : Nat → Int) (x1 : Int) (K_2 : (Int) → Int → Prop) (hK_2 : ∀ (spo : Int) (x1 : Int), K_2 spo x1 → V p l e rm_X5_readKey s m args below meth c D A 2 0 0 (MQ below (QI D A (W1_X5_readKey t hM zA spA svA soA ikA txA viA srA frA toA hoA keA nsv len thr nvi low high nto mos z sp sv so ik tx vi sr fr to ho ke) (po_X5_readKey Q)) args s 0 0 A) 2 [(0, .ref hM), (1, .int (iI x1))] [] [oB hM 5 [.ref zA, .ref spA, .ref svA, .int (iI nsv), .ref soA, .ref ikA, .ref txA, .int (iI len), .int (iI thr), .int (iI nvi), .ref viA, .int (iI low), .int (iI high), .ref srA, .ref frA, .ref toA, .ref hoA, .ref keA, .int (iI nto), .int (iI spo), .int (iI mos)], aI t zA 646 z, aI t spA 646 sp, aI t svA 3876 sv, aI t soA 1292 so, aZ t ikA 2 ik, aI t txA 60 tx, aI t viA 120 vi, aI t srA 120 sr, aI t frA 122 fr, aI t toA 122 to, aI t hoA 31 ho, aI t keA 31 ke]), wp_X5_readKey_45 len spo tx x1 Q K_2 → V p l e rm_X5_readKey s m args below meth c D A 2 0 0 (MQ below (QI D A (W1_X5_readKey t hM zA spA svA soA ikA txA viA srA frA toA hoA keA nsv len thr nvi low high nto mos z sp sv so ik tx vi sr fr to ho ke) (po_X5_readKey Q)) args s 0 0 A) 45 [(0, .ref hM), (1, .int (iI x1))] [] [oB hM 5 [.ref zA, .ref spA, .ref svA, .int (iI nsv), .ref soA, .ref ikA, .ref txA, .int (iI len), .int (iI thr), .int (iI nvi), .ref viA, .int (iI low), .int (iI high), .ref srA, .ref frA, .ref toA, .ref hoA, .ref keA, .int (iI nto), .int (iI spo), .int (iI mos)], aI t zA 646 z, aI t spA 646 sp, aI t svA 3876 sv, aI t soA 1292 so, aZ t ikA 2 ik, aI t txA 60 tx, aI t viA 120 vi, aI t srA 120 sr, aI t frA 122 fr, aI t toA 122 to, aI t hoA 31 ho, aI t keA 31 ke] := by
    intro len spo tx x1 K_2 hK_2 hv
    unfold wp_X5_readKey_45 at hv
    refine V_iload_n hc dX5_readKey_45 1 rfl ?_
    refine V_iconst hc dX5_readKey_46 ?_
    refine V_icmp_ne (tgt := 65) hc dX5_readKey_47 (by decide) ⟨hv.1, by decide, hv.2⟩ (fun hv => ?_) (fun hv => ?_)
    · refine V_bipush hc dX5_readKey_65 (by decide) ?_
      refine V_iload_n hc dX5_readKey_67 1 rfl ?_
      refine V_imul hc dX5_readKey_68 ?_
      refine V_aload_n hc dX5_readKey_69 0 rfl ?_
      refine V_get (C := RX5) (T := TX5) (N := 21) hc i_X5_readKey_5 0 rfl rfl 6 (by decide) m_X5_readKey_26 rfl dX5_readKey_70 ?_
      refine V_aload_n hc dX5_readKey_73 0 rfl ?_
      refine V_get (C := RX5) (T := TX5) (N := 21) hc i_X5_readKey_5 0 rfl rfl 19 (by decide) m_X5_readKey_140 rfl dX5_readKey_74 ?_
      refine V_iald hc 6 rfl (by decide) hv dX5_readKey_77 (fun hv => ?_)
      refine V_iadd hc dX5_readKey_78 ?_
      refine V_bipush hc dX5_readKey_79 (by decide) ?_
      refine V_isub hc dX5_readKey_81 ?_
      refine V_lv [0] [(0, .ref hM)] rfl ?_
      exact C_82 len spo tx (((10 * x1) + (tx spo.toNat)) - 48) K_2 hK_2 hv
    · refine V_aload_n hc dX5_readKey_50 0 rfl ?_
      refine V_get (C := RX5) (T := TX5) (N := 21) hc i_X5_readKey_5 0 rfl rfl 6 (by decide) m_X5_readKey_26 rfl dX5_readKey_51 ?_
      refine V_aload_n hc dX5_readKey_54 0 rfl ?_
      refine V_get (C := RX5) (T := TX5) (N := 21) hc i_X5_readKey_5 0 rfl rfl 19 (by decide) m_X5_readKey_140 rfl dX5_readKey_55 ?_
      refine V_iald hc 6 rfl (by decide) hv dX5_readKey_58 (fun hv => ?_)
      refine V_bipush hc dX5_readKey_59 (by decide) ?_
      refine V_isub hc dX5_readKey_61 ?_
      refine V_goto (tgt := 82) hc dX5_readKey_62 (by decide) ?_
      refine V_lv [0] [(0, .ref hM)] rfl ?_
      exact C_82 len spo tx ((tx spo.toNat) - 48) K_2 hK_2 hv
  have L_2 : ∀ (len : Int) (tx : Nat → Int) (n9 : Nat) (spo : Int) (x1 : Int), lq2 (wp_X5_readKey_2 len tx Q) n9 spo x1 → V p l e rm_X5_readKey s m args below meth c D A 2 0 0 (MQ below (QI D A (W1_X5_readKey t hM zA spA svA soA ikA txA viA srA frA toA hoA keA nsv len thr nvi low high nto mos z sp sv so ik tx vi sr fr to ho ke) (po_X5_readKey Q)) args s 0 0 A) 2 [(0, .ref hM), (1, .int (iI x1))] [] [oB hM 5 [.ref zA, .ref spA, .ref svA, .int (iI nsv), .ref soA, .ref ikA, .ref txA, .int (iI len), .int (iI thr), .int (iI nvi), .ref viA, .int (iI low), .int (iI high), .ref srA, .ref frA, .ref toA, .ref hoA, .ref keA, .int (iI nto), .int (iI spo), .int (iI mos)], aI t zA 646 z, aI t spA 646 sp, aI t svA 3876 sv, aI t soA 1292 so, aZ t ikA 2 ik, aI t txA 60 tx, aI t viA 120 vi, aI t srA 120 sr, aI t frA 122 fr, aI t toA 122 to, aI t hoA 31 ho, aI t keA 31 ke] := by
    intro len tx n9
    induction n9 with
    | zero =>
      intro spo x1 hv
      exact hv.elim
    | succ n9 ih =>
      intro spo x1 hv
      have hv : wp_X5_readKey_2 len tx Q (lq2 (wp_X5_readKey_2 len tx Q) n9) spo x1 := hv
      generalize lq2 (wp_X5_readKey_2 len tx Q) n9 = K_2 at hv ih
      have hK_2 := ih
      unfold wp_X5_readKey_2 at hv
      refine V_aload_n hc dX5_readKey_2 0 rfl ?_
      refine V_bipush hc dX5_readKey_3 (by decide) ?_
      refine V_bipush hc dX5_readKey_5 (by decide) ?_
      refine V_callVI (As := [.int (iI 48), .int (iI 57)]) hc (wc := [oB hM 5 [.ref zA, .ref spA, .ref svA, .int (iI nsv), .ref soA, .ref ikA, .ref txA, .int (iI len), .int (iI thr), .int (iI nvi), .ref viA, .int (iI low), .int (iI high), .ref srA, .ref frA, .ref toA, .ref hoA, .ref keA, .int (iI nto), .int (iI spo), .int (iI mos)], aI t zA 646 z, aI t spA 646 sp, aI t svA 3876 sv, aI t soA 1292 so, aZ t ikA 2 ik, aI t txA 60 tx, aI t viA 120 vi, aI t srA 120 sr, aI t frA 122 fr, aI t toA 122 to, aI t hoA 31 ho, aI t keA 31 ke]) (wr := []) (pmI [0, 1, 2, 3, 4, 5, 6, 7, 8, 9, 10, 11, 12] 13 rfl (by decide +kernel) rfl) rfl rfl (met_X5_sees l D t hM zA spA svA soA ikA txA viA srA frA toA hoA keA nsv len thr nvi low high nto spo mos z sp sv so ik tx vi sr fr to ho ke 48 57 _ hv) rfl gX5_readKey_X5_sees rfl ⟨rfl, rfl⟩ ok_X5_sees (by decide) (Nat.le_of_ble_eq_true rfl) dX5_readKey_7 (by decide) (fun r_1 _ hv => ?_)
      try dsimp only at hv
      refine V_perm (ws1 := [oB hM 5 [.ref zA, .ref spA, .ref svA, .int (iI nsv), .ref soA, .ref ikA, .ref txA, .int (iI len), .int (iI thr), .int (iI nvi), .ref viA, .int (iI low), .int (iI high), .ref srA, .ref frA, .ref toA, .ref hoA, .ref keA, .int (iI nto), .int (iI spo), .int (iI mos)], aI t zA 646 z, aI t spA 646 sp, aI t svA 3876 sv, aI t soA 1292 so, aZ t ikA 2 ik, aI t txA 60 tx, aI t viA 120 vi, aI t srA 120 sr, aI t frA 122 fr, aI t toA 122 to, aI t hoA 31 ho, aI t keA 31 ke]) (pmI [0, 1, 2, 3, 4, 5, 6, 7, 8, 9, 10, 11, 12] 13 rfl (by decide +kernel) rfl) ?_
      refine V_if_eq (tgt := 96) hc dX5_readKey_10 (by decide) hv (fun hv => ?_) (fun hv => ?_)
      · refine V_iload_n hc dX5_readKey_96 1 rfl ?_
        exact V_iret hc hr spo hv rfl dX5_readKey_97
      · refine V_iload_n hc dX5_readKey_13 1 rfl ?_
        refine V_iconst hc dX5_readKey_14 ?_
        refine V_icmp_eq (tgt := 45) hc dX5_readKey_15 (by decide) ⟨hv.1, by decide, hv.2⟩ (fun hv => ?_) (fun hv => ?_)
        · exact C_45 len spo tx x1 K_2 hK_2 hv
        · refine V_iload_n hc dX5_readKey_18 1 rfl ?_
          refine V_if_le (tgt := 96) hc dX5_readKey_19 (by decide) hv (fun hv => ?_) (fun hv => ?_)
          · refine V_iload_n hc dX5_readKey_96 1 rfl ?_
            exact V_iret hc hr spo hv rfl dX5_readKey_97
          · refine V_bipush hc dX5_readKey_22 (by decide) ?_
            refine V_iload_n hc dX5_readKey_24 1 rfl ?_
            refine V_imul hc dX5_readKey_25 ?_
            refine V_aload_n hc dX5_readKey_26 0 rfl ?_
            refine V_get (C := RX5) (T := TX5) (N := 21) hc i_X5_readKey_5 0 rfl rfl 6 (by decide) m_X5_readKey_26 rfl dX5_readKey_27 ?_
            refine V_aload_n hc dX5_readKey_30 0 rfl ?_
            refine V_get (C := RX5) (T := TX5) (N := 21) hc i_X5_readKey_5 0 rfl rfl 19 (by decide) m_X5_readKey_140 rfl dX5_readKey_31 ?_
            refine V_iald hc 6 rfl (by decide) hv dX5_readKey_34 (fun hv => ?_)
            refine V_iadd hc dX5_readKey_35 ?_
            refine V_bipush hc dX5_readKey_36 (by decide) ?_
            refine V_isub hc dX5_readKey_38 ?_
            refine V_sipush hc dX5_readKey_39 (by decide) ?_
            refine V_icmp_ge (tgt := 96) hc dX5_readKey_42 (by decide) ⟨hv.1, by decide, hv.2⟩ (fun hv => ?_) (fun hv => ?_)
            · refine V_iload_n hc dX5_readKey_96 1 rfl ?_
              exact V_iret hc hr spo hv rfl dX5_readKey_97
            · exact C_45 len spo tx x1 K_2 hK_2 hv
  refine V_lv [0] [(0, .ref hM)] rfl ?_
  unfold wp_X5_readKey at hv
  refine V_iconst hc dX5_readKey_0 ?_
  refine V_istore_n hc dX5_readKey_1 [(1, .int (iI (-1))), (0, .ref hM)] (by decide) rfl ?_
  refine V_lv [1, 0] [(0, .ref hM), (1, .int (iI (-1)))] rfl ?_
  obtain ⟨n9, hv⟩ := hv
  exact L_2 len tx n9 spo (-1) hv
