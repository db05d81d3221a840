abbrev W1_X5_between (t : Nat → ClassId) (hM : Nat) (zA : Nat) (spA : Nat) (svA : Nat) (soA : Nat) (ikA : Nat) (txA : Nat) (viA : Nat) (srA : Nat) (frA : Nat) (toA : Nat) (hoA : Nat) (keA : Nat) (nsv : Int) (len : Int) (thr : Int) (nvi : Int) (low : Int) (high : Int) (nto : Int) (spo : Int) (mos : Int) (z : Nat → Int) (sp : Nat → Int) (sv : Nat → Int) (so : Nat → Int) (ik : Nat → Int) (tx : Nat → Int) (vi : Nat → Int) (sr : Nat → Int) (fr : Nat → Int) (to : Nat → Int) (ho : Nat → Int) (ke : Nat → Int) (u : Unit) : va_W := [oB hM 5 [.ref zA, .ref spA, .ref svA, .int (iI nsv), .ref soA, .ref ikA, .ref txA, .int (iI len), .int (iI thr), .int (iI nvi), .ref viA, .int (iI low), .int (iI high), .ref srA, .ref frA, .ref toA, .ref hoA, .ref keA, .int (iI nto), .int (iI spo), .int (iI mos)], aI t zA 646 z, aI t spA 646 sp, aI t svA 3876 sv, aI t soA 1292 so, aZ t ikA 2 ik, aI t txA 60 tx, aI t viA 120 vi, aI t srA 120 sr, aI t frA 122 fr, aI t toA 122 to, aI t hoA 31 ho, aI t keA 31 ke]
abbrev po_X5_between (Q : Int → Prop) (r : Int) (u : Unit) : Prop := Q r
abbrev rm_X5_between : Room := { frames := 0, cells := 0, slots := 0, locals := 0 }
def wp_X5_between_42 (z : Nat → Int) (x1 : Int) (x2 : Int) (x3 : Int) (x4 : Int) (x5 : Int) (x6 : Int) (s0 : Int) (Q : Int → Prop) (K_6 : Int → Int → Prop) : Prop := inR s0 ∧ (s0 = 0 → K_6 (x5 + 0) (x6 + 1)) ∧ (¬ (s0 = 0) → (0 ≤ (x1 + 1) + x6 ∧ (x1 + 1) + x6 < 646) ∧ inR (z ((x1 + 1) + x6).toNat) ∧ inR x2 ∧ (z ((x1 + 1) + x6).toNat ≤ x2 → K_6 (x5 + 0) (x6 + 1)) ∧ (¬ (z ((x1 + 1) + x6).toNat ≤ x2) → (0 ≤ (x1 + 1) + x6 ∧ (x1 + 1) + x6 < 646) ∧ inR (z ((x1 + 1) + x6).toNat) ∧ inR x3 ∧ (z ((x1 + 1) + x6).toNat ≥ x3 → K_6 (x5 + 0) (x6 + 1)) ∧ (¬ (z ((x1 + 1) + x6).toNat ≥ x3) → K_6 (x5 + 1) (x6 + 1))))
def wp_X5_between_37 (z : Nat → Int) (x1 : Int) (x2 : Int) (x3 : Int) (x4 : Int) (x5 : Int) (x6 : Int) (Q : Int → Prop) (K_6 : Int → Int → Prop) : Prop := wp_X5_between_42 z x1 x2 x3 x4 x5 x6 1 Q K_6
def wp_X5_between_6 (z : Nat → Int) (x1 : Int) (x2 : Int) (x3 : Int) (x4 : Int) (Q : Int → Prop) (K_6 : Int → Int → Prop) (x5 : Int) (x6 : Int) : Prop := (0 ≤ x1 ∧ x1 < 646) ∧ inR x6 ∧ inR (z x1.toNat) ∧ (x6 ≥ z x1.toNat → Q x5) ∧ (¬ (x6 ≥ z x1.toNat) → inR x4 ∧ (x4 = 0 → wp_X5_between_37 z x1 x2 x3 x4 x5 x6 Q K_6) ∧ (¬ (x4 = 0) → (0 ≤ (x1 + 121) + x6 ∧ (x1 + 121) + x6 < 646) ∧ inR (z ((x1 + 121) + x6).toNat) ∧ (z ((x1 + 121) + x6).toNat ≠ 0 → wp_X5_between_42 z x1 x2 x3 x4 x5 x6 0 Q K_6) ∧ (¬ (z ((x1 + 121) + x6).toNat ≠ 0) → wp_X5_between_37 z x1 x2 x3 x4 x5 x6 Q K_6)))
def wp_X5_between (z : Nat → Int) (x1 : Int) (x2 : Int) (x3 : Int) (x4 : Int) (Q : Int → Prop) : Prop := (∃ n, lq2 (wp_X5_between_6 z x1 x2 x3 x4 Q) n 0 0)
theorem m_X5_between_7 : Cond.fieldLink RX5 7 "BackgroundRebuildModel" "z" "[I" ∈ wsX5_between := by decide +kernel
theorem i_X5_between_5 : ∀ w ∈ u_ws RX5 TX5 21, w ∈ wsX5_between := by decide +kernel
theorem ok_X5_between : yX5_between.cls = RX5 ∧ yX5_between.cls ≠ "java/lang/invoke/MethodHandle" ∧ yX5_between.cls ≠ "java/lang/invoke/VarHandle" ∧ (parseMethodDescriptor yX5_between.desc).map (fun d => d.parameters.length) = some 4 := by decide +kernel
set_option maxHeartbeats 4000000 in
set_option maxRecDepth 100000 in
theorem met_X5_between (l : Launch) (D : va_G) (t : Nat → ClassId) (hM : Nat) (zA : Nat) (spA : Nat) (svA : Nat) (soA : Nat) (ikA : Nat) (txA : Nat) (viA : Nat) (srA : Nat) (frA : Nat) (toA : Nat) (hoA : Nat) (keA : Nat) (nsv : Int) (len : Int) (thr : Int) (nvi : Int) (low : Int) (high : Int) (nto : Int) (spo : Int) (mos : Int) (z : Nat → Int) (sp : Nat → Int) (sv : Nat → Int) (so : Nat → Int) (ik : Nat → Int) (tx : Nat → Int) (vi : Nat → Int) (sr : Nat → Int) (fr : Nat → Int) (to : Nat → Int) (ho : Nat → Int) (ke : Nat → Int) (x1 : Int) (x2 : Int) (x3 : Int) (x4 : Int) (Q : Int → Prop) (hv : wp_X5_between z x1 x2 x3 x4 Q) : MI l D t yX5_between wsX5_between rm_X5_between [.ref hM, .int (iI x1), .int (iI x2), .int (iI x3), .int (iI x4)] [oB hM 5 [.ref zA, .ref spA, .ref svA, .int (iI nsv), .ref soA, .ref ikA, .ref txA, .int (iI len), .int (iI thr), .int (iI nvi), .ref viA, .int (iI low), .int (iI high), .ref srA, .ref frA, .ref toA, .ref hoA, .ref keA, .int (iI nto), .int (iI spo), .int (iI mos)], aI t zA 646 z, aI t spA 646 sp, aI t svA 3876 sv, aI t soA 1292 so, aZ t ikA 2 ik, aI t txA 60 tx, aI t viA 120 vi, aI t srA 120 sr, aI t frA 122 fr, aI t toA 122 to, aI t hoA 31 ho, aI t keA 31 ke] (W1_X5_between t hM zA spA svA soA ikA txA viA srA frA toA hoA keA nsv len thr nvi low high nto spo mos z sp sv so ik tx vi sr fr to ho ke) (po_X5_between Q) 0 0 := by
  refine M_ofi (cc := cX5_between) (nL := 8) (by decide) rfl (Nat.le_of_ble_eq_true rfl) ?_
  intro p e s m args below meth c A hc hr
  have C_42 : ∀ (z : Nat → Int) (x1 : Int) (x2 : Int) (x3 : Int) (x4 : Int) (x5 : Int) (x6 : Int) (s0 : Int) (K_6 : Int → Int → Prop) (hK_6 : ∀ (x5 : Int) (x6 : Int), K_6 x5 x6 → V p l e rm_X5_between s m args below meth c D A 8 0 0 (MQ below (QI D A (W1_X5_between t hM zA spA svA soA ikA txA viA srA frA toA hoA keA nsv len thr nvi low high nto spo mos z sp sv so ik tx vi sr fr to ho ke) (po_X5_between Q)) args s 0 0 A) 6 [(0, .ref hM), (1, .int (iI x1)), (2, .int (iI x2)), (3, .int (iI x3)), (4, .int (iI x4)), (5, .int (iI x5)), (6, .int (iI x6))] [] [oB hM 5 [.ref zA, .ref spA, .ref svA, .int (iI nsv), .ref soA, .ref ikA, .ref txA, .int (iI len), .int (iI thr), .int (iI nvi), .ref viA, .int (iI low), .int (iI high), .ref srA, .ref frA, .ref toA, .ref hoA, .ref keA, .int (iI nto), .int (iI spo), .int (iI mos)], aI t zA 646 z, aI t spA 646 sp, aI t svA 3876 sv, aI t soA 1292 so, aZ t ikA 2 ik, aI t txA 60 tx, aI t viA 120 vi, aI t srA 120 sr, aI t frA 122 fr, aI t toA 122 to, aI t hoA 31 ho, aI t keA 31 ke]), wp_X5_between_42 z x1 x2 x3 x4 x5 x6 s0 Q K_6 → V p l e rm_X5_between s m args below meth c D A 8 0 0 (MQ below (QI D A (W1_X5_between t hM zA spA svA soA ikA txA viA srA frA toA hoA keA nsv len thr nvi low high nto spo mos z sp sv so ik tx vi sr fr to ho ke) (po_X5_between Q)) args s 0 0 A) 42 [(0, .ref hM), (1, .int (iI x1)), (2, .int (iI x2)), (3, .int (iI x3)), (4, .int (iI x4)), (5, .int (iI x5)), (6, .int (iI x6))] [.int (iI s0)] [oB hM 5 [.ref zA, .ref spA, .ref svA, .int (iI nsv), .ref soA, .ref ikA, .ref txA, .int (iI len), .int (iI thr), .int (iI nvi), .ref viA, .int (iI low), .int (iI high), .ref srA, .ref frA, .ref toA, .ref hoA, .ref keA, .int (iI nto), .int (iI spo), .int (iI mos)], aI t zA 646 z, aI t spA 646 sp, aI t svA 3876 sv, aI t soA 1292 so, aZ t ikA 2 ik, aI t txA 60 tx, aI t viA 120 vi, aI t srA 120 sr, aI t frA 122 fr, aI t toA 122 to, aI t hoA 31 ho, aI t keA 31 ke] := by
    intro z x1 x2 x3 x4 x5 x6 s0 K_6 hK_6 hv
    unfold wp_X5_between_42 at hv
    refine V_istore hc dX5_between_42 [(7, .int (iI s0)), (0, .ref hM), (1, .int (iI x1)), (2, .int (iI x2)), (3, .int (iI x3)), (4, .int (iI x4)), (5, .int (iI x5)), (6, .int (iI x6))] (by decide) rfl ?_
    refine V_iload hc dX5_between_44 6 rfl ?_
    refine V_iload hc dX5_between_46 0 rfl ?_
    refine V_if_eq (tgt := 85) hc dX5_between_48 (by decide) hv (fun hv => ?_) (fun hv => ?_)
    · refine V_iconst hc dX5_between_85 ?_
      refine V_iadd hc dX5_between_86 ?_
      refine V_istore hc dX5_between_87 [(5, .int (iI (x5 + 0))), (7, .int (iI s0)), (0, .ref hM), (1, .int (iI x1)), (2, .int (iI x2)), (3, .int (iI x3)), (4, .int (iI x4)), (6, .int (iI x6))] (by decide) rfl ?_
      refine V_iinc hc dX5_between_89 7 rfl [(6, .int (iI (x6 + 1))), (5, .int (iI (x5 + 0))), (7, .int (iI s0)), (0, .ref hM), (1, .int (iI x1)), (2, .int (iI x2)), (3, .int (iI x3)), (4, .int (iI x4))] (by decide) rfl ?_
      refine V_goto (tgt := 6) hc dX5_between_92 (by decide) ?_
      refine V_lv [3, 4, 5, 6, 7, 1, 0] [(0, .ref hM), (1, .int (iI x1)), (2, .int (iI x2)), (3, .int (iI x3)), (4, .int (iI x4)), (5, .int (iI (x5 + 0))), (6, .int (iI (x6 + 1)))] rfl ?_
      exact hK_6 (x5 + 0) (x6 + 1) hv
    · refine V_aload_n hc dX5_between_51 1 rfl ?_
      refine V_get (C := RX5) (T := TX5) (N := 21) hc i_X5_between_5 0 rfl rfl 0 (by decide) m_X5_between_7 rfl dX5_between_52 ?_
      refine V_iload_n hc dX5_between_55 2 rfl ?_
      refine V_iconst hc dX5_between_56 ?_
      refine V_iadd hc dX5_between_57 ?_
      refine V_iload hc dX5_between_58 7 rfl ?_
      refine V_iadd hc dX5_between_60 ?_
      refine V_iald hc 1 rfl (by decide) hv dX5_between_61 (fun hv => ?_)
      refine V_iload_n hc dX5_between_62 3 rfl ?_
      refine V_icmp_le (tgt := 85) hc dX5_between_63 (by decide) hv (fun hv => ?_) (fun hv => ?_)
      · refine V_iconst hc dX5_between_85 ?_
        refine V_iadd hc dX5_between_86 ?_
        refine V_istore hc dX5_between_87 [(5, .int (iI (x5 + 0))), (7, .int (iI s0)), (0, .ref hM), (1, .int (iI x1)), (2, .int (iI x2)), (3, .int (iI x3)), (4, .int (iI x4)), (6, .int (iI x6))] (by decide) rfl ?_
        refine V_iinc hc dX5_between_89 7 rfl [(6, .int (iI (x6 + 1))), (5, .int (iI (x5 + 0))), (7, .int (iI s0)), (0, .ref hM), (1, .int (iI x1)), (2, .int (iI x2)), (3, .int (iI x3)), (4, .int (iI x4))] (by decide) rfl ?_
        refine V_goto (tgt := 6) hc dX5_between_92 (by decide) ?_
        refine V_lv [3, 4, 5, 6, 7, 1, 0] [(0, .ref hM), (1, .int (iI x1)), (2, .int (iI x2)), (3, .int (iI x3)), (4, .int (iI x4)), (5, .int (iI (x5 + 0))), (6, .int (iI (x6 + 1)))] rfl ?_
        exact hK_6 (x5 + 0) (x6 + 1) hv
      · refine V_aload_n hc dX5_between_66 1 rfl ?_
        refine V_get (C := RX5) (T := TX5) (N := 21) hc i_X5_between_5 0 rfl rfl 0 (by decide) m_X5_between_7 rfl dX5_between_67 ?_
        refine V_iload_n hc dX5_between_70 2 rfl ?_
        refine V_iconst hc dX5_between_71 ?_
        refine V_iadd hc dX5_between_72 ?_
        refine V_iload hc dX5_between_73 7 rfl ?_
        refine V_iadd hc dX5_between_75 ?_
        refine V_iald hc 1 rfl (by decide) hv dX5_between_76 (fun hv => ?_)
        refine V_iload_n hc dX5_between_77 4 rfl ?_
        refine V_icmp_ge (tgt := 85) hc dX5_between_78 (by decide) hv (fun hv => ?_) (fun hv => ?_)
        · refine V_iconst hc dX5_between_85 ?_
          refine V_iadd hc dX5_between_86 ?_
          refine V_istore hc dX5_between_87 [(5, .int (iI (x5 + 0))), (7, .int (iI s0)), (0, .ref hM), (1, .int (iI x1)), (2, .int (iI x2)), (3, .int (iI x3)), (4, .int (iI x4)), (6, .int (iI x6))] (by decide) rfl ?_
          refine V_iinc hc dX5_between_89 7 rfl [(6, .int (iI (x6 + 1))), (5, .int (iI (x5 + 0))), (7, .int (iI s0)), (0, .ref hM), (1, .int (iI x1)), (2, .int (iI x2)), (3, .int (iI x3)), (4, .int (iI x4))] (by decide) rfl ?_
          refine V_goto (tgt := 6) hc dX5_between_92 (by decide) ?_
          refine V_lv [3, 4, 5, 6, 7, 1, 0] [(0, .ref hM), (1, .int (iI x1)), (2, .int (iI x2)), (3, .int (iI x3)), (4, .int (iI x4)), (5, .int (iI (x5 + 0))), (6, .int (iI (x6 + 1)))] rfl ?_
          exact hK_6 (x5 + 0) (x6 + 1) hv
        · refine V_iconst hc dX5_between_81 ?_
          refine V_goto (tgt := 86) hc dX5_between_82 (by decide) ?_
          refine V_iadd hc dX5_between_86 ?_
          refine V_istore hc dX5_between_87 [(5, .int (iI (x5 + 1))), (7, .int (iI s0)), (0, .ref hM), (1, .int (iI x1)), (2, .int (iI x2)), (3, .int (iI x3)), (4, .int (iI x4)), (6, .int (iI x6))] (by decide) rfl ?_
          refine V_iinc hc dX5_between_89 7 rfl [(6, .int (iI (x6 + 1))), (5, .int (iI (x5 + 1))), (7, .int (iI s0)), (0, .ref hM), (1, .int (iI x1)), (2, .int (iI x2)), (3, .int (iI x3)), (4, .int (iI x4))] (by decide) rfl ?_
          refine V_goto (tgt := 6) hc dX5_between_92 (by decide) ?_
          refine V_lv [3, 4, 5, 6, 7, 1, 0] [(0, .ref hM), (1, .int (iI x1)), (2, .int (iI x2)), (3, .int (iI x3)), (4, .int (iI x4)), (5, .int (iI (x5 + 1))), (6, .int (iI (x6 + 1)))] rfl ?_
          exact hK_6 (x5 + 1) (x6 + 1) hv
  have C_37 : ∀ (z : Nat → Int) (x1 : Int) (x2 : Int) (x3 : Int) (x4 : Int) (x5 : Int) (x6 : Int) (K_6 : Int → Int → Prop) (hK_6 : ∀ (x5 : Int) (x6 : Int), K_6 x5 x6 → V p l e rm_X5_between s m args below meth c D A 8 0 0 (MQ below (QI D A (W1_X5_between t hM zA spA svA soA ikA txA viA srA frA toA hoA keA nsv len thr nvi low high nto spo mos z sp sv so ik tx vi sr fr to ho ke) (po_X5_between Q)) args s 0 0 A) 6 [(0, .ref hM), (1, .int (iI x1)), (2, .int (iI x2)), (3, .int (iI x3)), (4, .int (iI x4)), (5, .int (iI x5)), (6, .int (iI x6))] [] [oB hM 5 [.ref zA, .ref spA, .ref svA, .int (iI nsv), .ref soA, .ref ikA, .ref txA, .int (iI len), .int (iI thr), .int (iI nvi), .ref viA, .int (iI low), .int (iI high), .ref srA, .ref frA, .ref toA, .ref hoA, .ref keA, .int (iI nto), .int (iI spo), .int (iI mos)], aI t zA 646 z, aI t spA 646 sp, aI t svA 3876 sv, aI t soA 1292 so, aZ t ikA 2 ik, aI t txA 60 tx, aI t viA 120 vi, aI t srA 120 sr, aI t frA 122 fr, aI t toA 122 to, aI t hoA 31 ho, aI t keA 31 ke]), wp_X5_between_37 z x1 x2 x3 x4 x5 x6 Q K_6 → V p l e rm_X5_between s m args below meth c D A 8 0 0 (MQ below (QI D A (W1_X5_between t hM zA spA svA soA ikA txA viA srA frA toA hoA keA nsv len thr nvi low high nto spo mos z sp sv so ik tx vi sr fr to ho ke) (po_X5_between Q)) args s 0 0 A) 37 [(0, .ref hM), (1, .int (iI x1)), (2, .int (iI x2)), (3, .int (iI x3)), (4, .int (iI x4)), (5, .int (iI x5)), (6, .int (iI x6))] [] [oB hM 5 [.ref zA, .ref spA, .ref svA, .int (iI nsv), .ref soA, .ref ikA, .ref txA, .int (iI len), .int (iI thr), .int (iI nvi), .ref viA, .int (iI low), .int (iI high), .ref srA, .ref frA, .ref toA, .ref hoA, .ref keA, .int (iI nto), .int (iI spo), .int (iI mos)], aI t zA 646 z, aI t spA 646 sp, aI t svA 3876 sv, aI t soA 1292 so, aZ t ikA 2 ik, aI t txA 60 tx, aI t viA 120 vi, aI t srA 120 sr, aI t frA 122 fr, aI t toA 122 to, aI t hoA 31 ho, aI t keA 31 ke] := by
    intro z x1 x2 x3 x4 x5 x6 K_6 hK_6 hv
    unfold wp_X5_between_37 at hv
    refine V_iconst hc dX5_between_37 ?_
    refine V_goto (tgt := 42) hc dX5_between_38 (by decide) ?_
    exact C_42 z x1 x2 x3 x4 x5 x6 1 K_6 hK_6 hv
  have L_6 : ∀ (z : Nat → Int) (x1 : Int) (x2 : Int) (x3 : Int) (x4 : Int) (n9 : Nat) (x5 : Int) (x6 : Int), lq2 (wp_X5_between_6 z x1 x2 x3 x4 Q) n9 x5 x6 → V p l e rm_X5_between s m args below meth c D A 8 0 0 (MQ below (QI D A (W1_X5_between t hM zA spA svA soA ikA txA viA srA frA toA hoA keA nsv len thr nvi low high nto spo mos z sp sv so ik tx vi sr fr to ho ke) (po_X5_between Q)) args s 0 0 A) 6 [(0, .ref hM), (1, .int (iI x1)), (2, .int (iI x2)), (3, .int (iI x3)), (4, .int (iI x4)), (5, .int (iI x5)), (6, .int (iI x6))] [] [oB hM 5 [.ref zA, .ref spA, .ref svA, .int (iI nsv), .ref soA, .ref ikA, .ref txA, .int (iI len), .int (iI thr), .int (iI nvi), .ref viA, .int (iI low), .int (iI high), .ref srA, .ref frA, .ref toA, .ref hoA, .ref keA, .int (iI nto), .int (iI spo), .int (iI mos)], aI t zA 646 z, aI t spA 646 sp, aI t svA 3876 sv, aI t soA 1292 so, aZ t ikA 2 ik, aI t txA 60 tx, aI t viA 120 vi, aI t srA 120 sr, aI t frA 122 fr, aI t toA 122 to, aI t hoA 31 ho, aI t keA 31 ke] := by
    intro z x1 x2 x3 x4 n9
    induction n9 with
    | zero =>
      intro x5 x6 hv
      exact hv.elim
    | succ n9 ih =>
      intro x5 x6 hv
      have hv : wp_X5_between_6 z x1 x2 x3 x4 Q (lq2 (wp_X5_between_6 z x1 x2 x3 x4 Q) n9) x5 x6 := hv
      generalize lq2 (wp_X5_between_6 z x1 x2 x3 x4 Q) n9 = K_6 at hv ih
      have hK_6 := ih
      unfold wp_X5_between_6 at hv
      refine V_iload hc dX5_between_6 6 rfl ?_
      refine V_aload_n hc dX5_between_8 0 rfl ?_
      refine V_get (C := RX5) (T := TX5) (N := 21) hc i_X5_between_5 0 rfl rfl 0 (by decide) m_X5_between_7 rfl dX5_between_9 ?_
      refine V_iload_n hc dX5_between_12 1 rfl ?_
      refine V_iald hc 1 rfl (by decide) hv dX5_between_13 (fun hv => ?_)
      refine V_icmp_ge (tgt := 95) hc dX5_between_14 (by decide) hv (fun hv => ?_) (fun hv => ?_)
      · refine V_iload hc dX5_between_95 5 rfl ?_
        exact V_iret hc hr () hv rfl dX5_between_97
      · refine V_iload hc dX5_between_17 4 rfl ?_
        refine V_if_eq (tgt := 37) hc dX5_between_19 (by decide) hv (fun hv => ?_) (fun hv => ?_)
        · exact C_37 z x1 x2 x3 x4 x5 x6 K_6 hK_6 hv
        · refine V_aload_n hc dX5_between_22 0 rfl ?_
          refine V_get (C := RX5) (T := TX5) (N := 21) hc i_X5_between_5 0 rfl rfl 0 (by decide) m_X5_between_7 rfl dX5_between_23 ?_
          refine V_iload_n hc dX5_between_26 1 rfl ?_
          refine V_bipush hc dX5_between_27 (by decide) ?_
          refine V_iadd hc dX5_between_29 ?_
          refine V_iload hc dX5_between_30 6 rfl ?_
          refine V_iadd hc dX5_between_32 ?_
          refine V_iald hc 1 rfl (by decide) hv dX5_between_33 (fun hv => ?_)
          refine V_if_ne (tgt := 41) hc dX5_between_34 (by decide) hv (fun hv => ?_) (fun hv => ?_)
          · refine V_iconst hc dX5_between_41 ?_
            exact C_42 z x1 x2 x3 x4 x5 x6 0 K_6 hK_6 hv
          · exact C_37 z x1 x2 x3 x4 x5 x6 K_6 hK_6 hv
  refine V_lv [0, 1, 2, 3, 4] [(0, .ref hM), (1, .int (iI x1)), (2, .int (iI x2)), (3, .int (iI x3)), (4, .int (iI x4))] rfl ?_
  unfold wp_X5_between at hv
  refine V_iconst hc dX5_between_0 ?_
  refine V_istore hc dX5_between_1 [(5, .int (iI 0)), (0, .ref hM), (1, .int (iI x1)), (2, .int (iI x2)), (3, .int (iI x3)), (4, .int (iI x4))] (by decide) rfl ?_
  refine V_iconst hc dX5_between_3 ?_
  refine V_istore hc dX5_between_4 [(6, .int (iI 0)), (5, .int (iI 0)), (0, .ref hM), (1, .int (iI x1)), (2, .int (iI x2)), (3, .int (iI x3)), (4, .int (iI x4))] (by decide) rfl ?_
  refine V_lv [2, 3, 4, 5, 6, 1, 0] [(0, .ref hM), (1, .int (iI x1)), (2, .int (iI x2)), (3, .int (iI x3)), (4, .int (iI x4)), (5, .int (iI 0)), (6, .int (iI 0))] rfl ?_
  obtain ⟨n9, hv⟩ := hv
  exact L_6 z x1 x2 x3 x4 n9 0 0 hv
abbrev W1_X5_seekBounds (t : Nat → ClassId) (hM : Nat) (zA : Nat) (spA : Nat) (svA : Nat) (soA : Nat) (ikA : Nat) (txA : Nat) (viA : Nat) (srA : Nat) (frA : Nat) (toA : Nat) (hoA : Nat) (keA : Nat) (nsv : Int) (len : Int) (thr : Int) (nto : Int) (spo : Int) (mos : Int) (z : Nat → Int) (sp : Nat → Int) (sv : Nat → Int) (so : Nat → Int) (ik : Nat → Int) (tx : Nat → Int) (sr : Nat → Int) (fr : Nat → Int) (to : Nat → Int) (ho : Nat → Int) (ke : Nat → Int) (u : (Int) × (Int) × (Int) × (Nat → Int)) : va_W := [oB hM 5 [.ref zA, .ref spA, .ref svA, .int (iI nsv), .ref soA, .ref ikA, .ref txA, .int (iI len), .int (iI thr), .int (iI u.1), .ref viA, .int (iI u.2.1), .int (iI u.2.2.1), .ref srA, .ref frA, .ref toA, .ref hoA, .ref keA, .int (iI nto), .int (iI spo), .int (iI mos)], aI t zA 646 z, aI t spA 646 sp, aI t svA 3876 sv, aI t soA 1292 so, aZ t ikA 2 ik, aI t txA 60 tx, aI t viA 120 u.2.2.2, aI t srA 120 sr, aI t frA 122 fr, aI t toA 122 to, aI t hoA 31 ho, aI t keA 31 ke]
abbrev po_X5_seekBounds (Q : (Int) → (Int) → (Int) → (Nat → Int) → Prop) (u : (Int) × (Int) × (Int) × (Nat → Int)) : Prop := Q u.1 u.2.1 u.2.2.1 u.2.2.2
abbrev rm_X5_seekBounds : Room := { frames := 1, cells := 0, slots := 0, locals := 25 }
def wp_X5_seekBounds_67 (nvi : Int) (low : Int) (high : Int) (z : Nat → Int) (vi : Nat → Int) (x2 : Int) (x3 : Int) (s0 : Int) (Q : (Int) → (Int) → (Int) → (Nat → Int) → Prop) (K_20 : (Int) → (Int) → Int → Prop) : Prop := (0 ≤ x3 ∧ x3 < 120) ∧ inR (vi x3.toNat) ∧ inR x2 ∧ (vi x3.toNat ≤ x2 → K_20 s0 high (x3 + 1)) ∧ (¬ (vi x3.toNat ≤ x2) → (0 ≤ x3 ∧ x3 < 120) ∧ inR (vi x3.toNat) ∧ inR high ∧ (vi x3.toNat ≥ high → K_20 s0 high (x3 + 1)) ∧ (¬ (vi x3.toNat ≥ high) → (0 ≤ x3 ∧ x3 < 120) ∧ K_20 s0 (vi x3.toNat) (x3 + 1)))
def wp_X5_seekBounds_63 (nvi : Int) (low : Int) (high : Int) (z : Nat → Int) (vi : Nat → Int) (x2 : Int) (x3 : Int) (Q : (Int) → (Int) → (Int) → (Nat → Int) → Prop) (K_20 : (Int) → (Int) → Int → Prop) : Prop := wp_X5_seekBounds_67 nvi low high z vi x2 x3 low Q K_20
def wp_X5_seekBounds_20 (nvi : Int) (z : Nat → Int) (vi : Nat → Int) (x2 : Int) (Q : (Int) → (Int) → (Int) → (Nat → Int) → Prop) (K_20 : (Int) → (Int) → Int → Prop) (low : Int) (high : Int) (x3 : Int) : Prop := inR x3 ∧ inR (nvi - 1) ∧ (x3 ≥ nvi - 1 → Q nvi low high vi) ∧ (¬ (x3 ≥ nvi - 1) → (0 ≤ x3 ∧ x3 < 120) ∧ inR (vi x3.toNat) ∧ inR x2 ∧ (vi x3.toNat ≥ x2 → wp_X5_seekBounds_63 nvi low high z vi x2 x3 Q K_20) ∧ (¬ (vi x3.toNat ≥ x2) → (0 ≤ x3 ∧ x3 < 120) ∧ inR (vi x3.toNat) ∧ inR low ∧ (vi x3.toNat ≤ low → wp_X5_seekBounds_63 nvi low high z vi x2 x3 Q K_20) ∧ (¬ (vi x3.toNat ≤ low) → (0 ≤ x3 ∧ x3 < 120) ∧ wp_X5_seekBounds_67 nvi low high z vi x2 x3 (vi x3.toNat) Q K_20)))
def wp_X5_seekBounds (nvi : Int) (low : Int) (high : Int) (z : Nat → Int) (vi : Nat → Int) (x1 : Int) (x2 : Int) (Q : (Int) → (Int) → (Int) → (Nat → Int) → Prop) : Prop := wp_X5_seek nvi low high z vi x1 x2 (fun nvi_1 low_1 high_1 vi_1 => (∃ n, lq3 (wp_X5_seekBounds_20 nvi_1 z vi_1 x2 Q) n (-1) 500 0))
theorem m_X5_seekBounds_69 : Cond.fieldLink RX5 69 "BackgroundRebuildModel" "low" "I" ∈ wsX5_seekBounds := by decide +kernel
theorem m_X5_seekBounds_72 : Cond.fieldLink RX5 72 "BackgroundRebuildModel" "high" "I" ∈ wsX5_seekBounds := by decide +kernel
theorem m_X5_seekBounds_66 : Cond.fieldLink RX5 66 "BackgroundRebuildModel" "visitedMany" "I" ∈ wsX5_seekBounds := by decide +kernel
theorem m_X5_seekBounds_29 : Cond.fieldLink RX5 29 "BackgroundRebuildModel" "visited" "[I" ∈ wsX5_seekBounds := by decide +kernel
theorem i_X5_seekBounds_5 : ∀ w ∈ u_ws RX5 TX5 21, w ∈ wsX5_seekBounds := by decide +kernel
theorem ok_X5_seekBounds : yX5_seekBounds.cls = RX5 ∧ yX5_seekBounds.cls ≠ "java/lang/invoke/MethodHandle" ∧ yX5_seekBounds.cls ≠ "java/lang/invoke/VarHandle" ∧ (parseMethodDescriptor yX5_seekBounds.desc).map (fun d => d.parameters.length) = some 2 := by decide +kernel
set_option maxHeartbeats 4000000 in
set_option maxRecDepth 100000 in
theorem met_X5_seekBounds (l : Launch) (D : va_G) (t : Nat → ClassId) (hM : Nat) (zA : Nat) (spA : Nat) (svA : Nat) (soA : Nat) (ikA : Nat) (txA : Nat) (viA : Nat) (srA : Nat) (frA : Nat) (toA : Nat) (hoA : Nat) (keA : Nat) (nsv : Int) (len : Int) (thr : Int) (nvi : Int) (low : Int) (high : Int) (nto : Int) (spo : Int) (mos : Int) (z : Nat → Int) (sp : Nat → Int) (sv : Nat → Int) (so : Nat → Int) (ik : Nat → Int) (tx : Nat → Int) (vi : Nat → Int) (sr : Nat → Int) (fr : Nat → Int) (to : Nat → Int) (ho : Nat → Int) (ke : Nat → Int) (x1 : Int) (x2 : Int) (Q : (Int) → (Int) → (Int) → (Nat → Int) → Prop) (hv : wp_X5_seekBounds nvi low high z vi x1 x2 Q) : MV l D t yX5_seekBounds wsX5_seekBounds rm_X5_seekBounds [.ref hM, .int (iI x1), .int (iI x2)] [oB hM 5 [.ref zA, .ref spA, .ref svA, .int (iI nsv), .ref soA, .ref ikA, .ref txA, .int (iI len), .int (iI thr), .int (iI nvi), .ref viA, .int (iI low), .int (iI high), .ref srA, .ref frA, .ref toA, .ref hoA, .ref keA, .int (iI nto), .int (iI spo), .int (iI mos)], aI t zA 646 z, aI t spA 646 sp, aI t svA 3876 sv, aI t soA 1292 so, aZ t ikA 2 ik, aI t txA 60 tx, aI t viA 120 vi, aI t srA 120 sr, aI t frA 122 fr, aI t toA 122 to, aI t hoA 31 ho, aI t keA 31 ke] (W1_X5_seekBounds t hM zA spA svA soA ikA txA viA srA frA toA hoA keA nsv len thr nto spo mos z sp sv so ik tx sr fr to ho ke) (po_X5_seekBounds Q) 0 0 := by
  refine M_ofv (cc := cX5_seekBounds) (nL := 4) (by decide) rfl (Nat.le_of_ble_eq_true rfl) ?_
  intro p e s m args below meth c A hc hr
  have C_67 : ∀ (nvi : Int) (low : Int) (high : Int) (z : Nat → Int) (vi : Nat → Int) (x2 : Int) (x3 : Int) (s0 : Int) (K_20 : (Int) → (Int) → Int → Prop) (hK_20 : ∀ (low : Int) (high : Int) (x3 : Int), K_20 low high x3 → V p l e rm_X5_seekBounds s m args below meth c D A 4 0 0 (MQ below (QV D A (W1_X5_seekBounds t hM zA spA svA soA ikA txA viA srA frA toA hoA keA nsv len thr nto spo mos z sp sv so ik tx sr fr to ho ke) (po_X5_seekBounds Q)) args s 0 0 A) 20 [(0, .ref hM), (2, .int (iI x2)), (3, .int (iI x3))] [] [oB hM 5 [.ref zA, .ref spA, .ref svA, .int (iI nsv), .ref soA, .ref ikA, .ref txA, .int (iI len), .int (iI thr), .int (iI nvi), .ref viA, .int (iI low), .int (iI high), .ref srA, .ref frA, .ref toA, .ref hoA, .ref keA, .int (iI nto), .int (iI spo), .int (iI mos)], aI t zA 646 z, aI t spA 646 sp, aI t svA 3876 sv, aI t soA 1292 so, aZ t ikA 2 ik, aI t txA 60 tx, aI t viA 120 vi, aI t srA 120 sr, aI t frA 122 fr, aI t toA 122 to, aI t hoA 31 ho, aI t keA 31 ke]), wp_X5_seekBounds_67 nvi low high z vi x2 x3 s0 Q K_20 → V p l e rm_X5_seekBounds s m args below meth c D A 4 0 0 (MQ below (QV D A (W1_X5_seekBounds t hM zA spA svA soA ikA txA viA srA frA toA hoA keA nsv len thr nto spo mos z sp sv so ik tx sr fr to ho ke) (po_X5_seekBounds Q)) args s 0 0 A) 67 [(0, .ref hM), (2, .int (iI x2)), (3, .int (iI x3))] [.int (iI s0), .ref hM] [oB hM 5 [.ref zA, .ref spA, .ref svA, .int (iI nsv), .ref soA, .ref ikA, .ref txA, .int (iI len), .int (iI thr), .int (iI nvi), .ref viA, .int (iI low), .int (iI high), .ref srA, .ref frA, .ref toA, .ref hoA, .ref keA, .int (iI nto), .int (iI spo), .int (iI mos)], aI t zA 646 z, aI t spA 646 sp, aI t svA 3876 sv, aI t soA 1292 so, aZ t ikA 2 ik, aI t txA 60 tx, aI t viA 120 vi, aI t srA 120 sr, aI t frA 122 fr, aI t toA 122 to, aI t hoA 31 ho, aI t keA 31 ke] := by
    intro nvi low high z vi x2 x3 s0 K_20 hK_20 hv
    unfold wp_X5_seekBounds_67 at hv
    refine V_puti (C := RX5) (T := TX5) (N := 21) hc i_X5_seekBounds_5 0 rfl rfl 11 (by decide) m_X5_seekBounds_69 tyX5 tyX5_ok nmX5 rfl (by decide +kernel) (Nat.le_of_ble_eq_true rfl) dX5_seekBounds_67 [oB hM 5 [.ref zA, .ref spA, .ref svA, .int (iI nsv), .ref soA, .ref ikA, .ref txA, .int (iI len), .int (iI thr), .int (iI nvi), .ref viA, .int (iI s0), .int (iI high), .ref srA, .ref frA, .ref toA, .ref hoA, .ref keA, .int (iI nto), .int (iI spo), .int (iI mos)], aI t zA 646 z, aI t spA 646 sp, aI t svA 3876 sv, aI t soA 1292 so, aZ t ikA 2 ik, aI t txA 60 tx, aI t viA 120 vi, aI t srA 120 sr, aI t frA 122 fr, aI t toA 122 to, aI t hoA 31 ho, aI t keA 31 ke] rfl ?_
    refine V_aload_n hc dX5_seekBounds_70 0 rfl ?_
    refine V_aload_n hc dX5_seekBounds_71 0 rfl ?_
    refine V_get (C := RX5) (T := TX5) (N := 21) hc i_X5_seekBounds_5 0 rfl rfl 10 (by decide) m_X5_seekBounds_29 rfl dX5_seekBounds_72 ?_
    refine V_iload_n hc dX5_seekBounds_75 2 rfl ?_
    refine V_iald hc 7 rfl (by decide) hv dX5_seekBounds_76 (fun hv => ?_)
    refine V_iload_n hc dX5_seekBounds_77 1 rfl ?_
    refine V_icmp_le (tgt := 103) hc dX5_seekBounds_78 (by decide) hv (fun hv => ?_) (fun hv => ?_)
    · refine V_aload_n hc dX5_seekBounds_103 0 rfl ?_
      refine V_get (C := RX5) (T := TX5) (N := 21) hc i_X5_seekBounds_5 0 rfl rfl 12 (by decide) m_X5_seekBounds_72 rfl dX5_seekBounds_104 ?_
      refine V_puti (C := RX5) (T := TX5) (N := 21) hc i_X5_seekBounds_5 0 rfl rfl 12 (by decide) m_X5_seekBounds_72 tyX5 tyX5_ok nmX5 rfl (by decide +kernel) (Nat.le_of_ble_eq_true rfl) dX5_seekBounds_107 [oB hM 5 [.ref zA, .ref spA, .ref svA, .int (iI nsv), .ref soA, .ref ikA, .ref txA, .int (iI len), .int (iI thr), .int (iI nvi), .ref viA, .int (iI s0), .int (iI high), .ref srA, .ref frA, .ref toA, .ref hoA, .ref keA, .int (iI nto), .int (iI spo), .int (iI mos)], aI t zA 646 z, aI t spA 646 sp, aI t svA 3876 sv, aI t soA 1292 so, aZ t ikA 2 ik, aI t txA 60 tx, aI t viA 120 vi, aI t srA 120 sr, aI t frA 122 fr, aI t toA 122 to, aI t hoA 31 ho, aI t keA 31 ke] rfl ?_
      refine V_iinc hc dX5_seekBounds_110 2 rfl [(3, .int (iI (x3 + 1))), (0, .ref hM), (2, .int (iI x2))] (by decide) rfl ?_
      refine V_goto (tgt := 20) hc dX5_seekBounds_113 (by decide) ?_
      refine V_lv [1, 2, 0] [(0, .ref hM), (2, .int (iI x2)), (3, .int (iI (x3 + 1)))] rfl ?_
      exact hK_20 s0 high (x3 + 1) hv
    · refine V_aload_n hc dX5_seekBounds_81 0 rfl ?_
      refine V_get (C := RX5) (T := TX5) (N := 21) hc i_X5_seekBounds_5 0 rfl rfl 10 (by decide) m_X5_seekBounds_29 rfl dX5_seekBounds_82 ?_
      refine V_iload_n hc dX5_seekBounds_85 2 rfl ?_
      refine V_iald hc 7 rfl (by decide) hv dX5_seekBounds_86 (fun hv => ?_)
      refine V_aload_n hc dX5_seekBounds_87 0 rfl ?_
      refine V_get (C := RX5) (T := TX5) (N := 21) hc i_X5_seekBounds_5 0 rfl rfl 12 (by decide) m_X5_seekBounds_72 rfl dX5_seekBounds_88 ?_
      refine V_icmp_ge (tgt := 103) hc dX5_seekBounds_91 (by decide) hv (fun hv => ?_) (fun hv => ?_)
      · refine V_aload_n hc dX5_seekBounds_103 0 rfl ?_
        refine V_get (C := RX5) (T := TX5) (N := 21) hc i_X5_seekBounds_5 0 rfl rfl 12 (by decide) m_X5_seekBounds_72 rfl dX5_seekBounds_104 ?_
        refine V_puti (C := RX5) (T := TX5) (N := 21) hc i_X5_seekBounds_5 0 rfl rfl 12 (by decide) m_X5_seekBounds_72 tyX5 tyX5_ok nmX5 rfl (by decide +kernel) (Nat.le_of_ble_eq_true rfl) dX5_seekBounds_107 [oB hM 5 [.ref zA, .ref spA, .ref svA, .int (iI nsv), .ref soA, .ref ikA, .ref txA, .int (iI len), .int (iI thr), .int (iI nvi), .ref viA, .int (iI s0), .int (iI high), .ref srA, .ref frA, .ref toA, .ref hoA, .ref keA, .int (iI nto), .int (iI spo), .int (iI mos)], aI t zA 646 z, aI t spA 646 sp, aI t svA 3876 sv, aI t soA 1292 so, aZ t ikA 2 ik, aI t txA 60 tx, aI t viA 120 vi, aI t srA 120 sr, aI t frA 122 fr, aI t toA 122 to, aI t hoA 31 ho, aI t keA 31 ke] rfl ?_
        refine V_iinc hc dX5_seekBounds_110 2 rfl [(3, .int (iI (x3 + 1))), (0, .ref hM), (2, .int (iI x2))] (by decide) rfl ?_
        refine V_goto (tgt := 20) hc dX5_seekBounds_113 (by decide) ?_
        refine V_lv [1, 2, 0] [(0, .ref hM), (2, .int (iI x2)), (3, .int (iI (x3 + 1)))] rfl ?_
        exact hK_20 s0 high (x3 + 1) hv
      · refine V_aload_n hc dX5_seekBounds_94 0 rfl ?_
        refine V_get (C := RX5) (T := TX5) (N := 21) hc i_X5_seekBounds_5 0 rfl rfl 10 (by decide) m_X5_seekBounds_29 rfl dX5_seekBounds_95 ?_
        refine V_iload_n hc dX5_seekBounds_98 2 rfl ?_
        refine V_iald hc 7 rfl (by decide) hv dX5_seekBounds_99 (fun hv => ?_)
        refine V_goto (tgt := 107) hc dX5_seekBounds_100 (by decide) ?_
        refine V_puti (C := RX5) (T := TX5) (N := 21) hc i_X5_seekBounds_5 0 rfl rfl 12 (by decide) m_X5_seekBounds_72 tyX5 tyX5_ok nmX5 rfl (by decide +kernel) (Nat.le_of_ble_eq_true rfl) dX5_seekBounds_107 [oB hM 5 [.ref zA, .ref spA, .ref svA, .int (iI nsv), .ref soA, .ref ikA, .ref txA, .int (iI len), .int (iI thr), .int (iI nvi), .ref viA, .int (iI s0), .int (iI (vi x3.toNat)), .ref srA, .ref frA, .ref toA, .ref hoA, .ref keA, .int (iI nto), .int (iI spo), .int (iI mos)], aI t zA 646 z, aI t spA 646 sp, aI t svA 3876 sv, aI t soA 1292 so, aZ t ikA 2 ik, aI t txA 60 tx, aI t viA 120 vi, aI t srA 120 sr, aI t frA 122 fr, aI t toA 122 to, aI t hoA 31 ho, aI t keA 31 ke] rfl ?_
        refine V_iinc hc dX5_seekBounds_110 2 rfl [(3, .int (iI (x3 + 1))), (0, .ref hM), (2, .int (iI x2))] (by decide) rfl ?_
        refine V_goto (tgt := 20) hc dX5_seekBounds_113 (by decide) ?_
        refine V_lv [1, 2, 0] [(0, .ref hM), (2, .int (iI x2)), (3, .int (iI (x3 + 1)))] rfl ?_
        exact hK_20 s0 (vi x3.toNat) (x3 + 1) hv
  have C_63 : ∀ (nvi : Int) (low : Int) (high : Int) (z : Nat → Int) (vi : Nat → Int) (x2 : Int) (x3 : Int) (K_20 : (Int) → (Int) → Int → Prop) (hK_20 : ∀ (low : Int) (high : Int) (x3 : Int), K_20 low high x3 → V p l e rm_X5_seekBounds s m args below meth c D A 4 0 0 (MQ below (QV D A (W1_X5_seekBounds t hM zA spA svA soA ikA txA viA srA frA toA hoA keA nsv len thr nto spo mos z sp sv so ik tx sr fr to ho ke) (po_X5_seekBounds Q)) args s 0 0 A) 20 [(0, .ref hM), (2, .int (iI x2)), (3, .int (iI x3))] [] [oB hM 5 [.ref zA, .ref spA, .ref svA, .int (iI nsv), .ref soA, .ref ikA, .ref txA, .int (iI len), .int (iI thr), .int (iI nvi), .ref viA, .int (iI low), .int (iI high), .ref srA, .ref frA, .ref toA, .ref hoA, .ref keA, .int (iI nto), .int (iI spo), .int (iI mos)], aI t zA 646 z, aI t spA 646 sp, aI t svA 3876 sv, aI t soA 1292 so, aZ t ikA 2 ik, aI t txA 60 tx, aI t viA 120 vi, aI t srA 120 sr, aI t frA 122 fr, aI t toA 122 to, aI t hoA 31 ho, aI t keA 31 ke]), wp_X5_seekBounds_63 nvi low high z vi x2 x3 Q K_20 → V p l e rm_X5_seekBounds s m args below meth c D A 4 0 0 (MQ below (QV D A (W1_X5_seekBounds t hM zA spA svA soA ikA txA viA srA frA toA hoA keA nsv len thr nto spo mos z sp sv so ik tx sr fr to ho ke) (po_X5_seekBounds Q)) args s 0 0 A) 63 [(0, .ref hM), (2, .int (iI x2)), (3, .int (iI x3))] [.ref hM] [oB hM 5 [.ref zA, .ref spA, .ref svA, .int (iI nsv), .ref soA, .ref ikA, .ref txA, .int (iI len), .int (iI thr), .int (iI nvi), .ref viA, .int (iI low), .int (iI high), .ref srA, .ref frA, .ref toA, .ref hoA, .ref keA, .int (iI nto), .int (iI spo), .int (iI mos)], aI t zA 646 z, aI t spA 646 sp, aI t svA 3876 sv, aI t soA 1292 so, aZ t ikA 2 ik, aI t txA 60 tx, aI t viA 120 vi, aI t srA 120 sr, aI t frA 122 fr, aI t toA 122 to, aI t hoA 31 ho, aI t keA 31 ke] := by
    intro nvi low high z vi x2 x3 K_20 hK_20 hv
    unfold wp_X5_seekBounds_63 at hv
    refine V_aload_n hc dX5_seekBounds_63 0 rfl ?_
    refine V_get (C := RX5) (T := TX5) (N := 21) hc i_X5_seekBounds_5 0 rfl rfl 11 (by decide) m_X5_seekBounds_69 rfl dX5_seekBounds_64 ?_
    exact C_67 nvi low high z vi x2 x3 low K_20 hK_20 hv
  have L_20 : ∀ (nvi : Int) (z : Nat → Int) (vi : Nat → Int) (x2 : Int) (n9 : Nat) (low : Int) (high : Int) (x3 : Int), lq3 (wp_X5_seekBounds_20 nvi z vi x2 Q) n9 low high x3 → V p l e rm_X5_seekBounds s m args below meth c D A 4 0 0 (MQ below (QV D A (W1_X5_seekBounds t hM zA spA svA soA ikA txA viA srA frA toA hoA keA nsv len thr nto spo mos z sp sv so ik tx sr fr to ho ke) (po_X5_seekBounds Q)) args s 0 0 A) 20 [(0, .ref hM), (2, .int (iI x2)), (3, .int (iI x3))] [] [oB hM 5 [.ref zA, .ref spA, .ref svA, .int (iI nsv), .ref soA, .ref ikA, .ref txA, .int (iI len), .int (iI thr), .int (iI nvi), .ref viA, .int (iI low), .int (iI high), .ref srA, .ref frA, .ref toA, .ref hoA, .ref keA, .int (iI nto), .int (iI spo), .int (iI mos)], aI t zA 646 z, aI t spA 646 sp, aI t svA 3876 sv, aI t soA 1292 so, aZ t ikA 2 ik, aI t txA 60 tx, aI t viA 120 vi, aI t srA 120 sr, aI t frA 122 fr, aI t toA 122 to, aI t hoA 31 ho, aI t keA 31 ke] := by
    intro nvi z vi x2 n9
    induction n9 with
    | zero =>
      intro low high x3 hv
      exact hv.elim
    | succ n9 ih =>
      intro low high x3 hv
      have hv : wp_X5_seekBounds_20 nvi z vi x2 Q (lq3 (wp_X5_seekBounds_20 nvi z vi x2 Q) n9) low high x3 := hv
      generalize lq3 (wp_X5_seekBounds_20 nvi z vi x2 Q) n9 = K_20 at hv ih
      have hK_20 := ih
      unfold wp_X5_seekBounds_20 at hv
      refine V_iload_n hc dX5_seekBounds_20 2 rfl ?_
      refine V_aload_n hc dX5_seekBounds_21 0 rfl ?_
      refine V_get (C := RX5) (T := TX5) (N := 21) hc i_X5_seekBounds_5 0 rfl rfl 9 (by decide) m_X5_seekBounds_66 rfl dX5_seekBounds_22 ?_
      refine V_iconst hc dX5_seekBounds_25 ?_
      refine V_isub hc dX5_seekBounds_26 ?_
      refine V_icmp_ge (tgt := 116) hc dX5_seekBounds_27 (by decide) hv (fun hv => ?_) (fun hv => ?_)
      · exact V_vret hc hr (nvi, low, high, vi) hv rfl dX5_seekBounds_116
      · refine V_aload_n hc dX5_seekBounds_30 0 rfl ?_
        refine V_aload_n hc dX5_seekBounds_31 0 rfl ?_
        refine V_get (C := RX5) (T := TX5) (N := 21) hc i_X5_seekBounds_5 0 rfl rfl 10 (by decide) m_X5_seekBounds_29 rfl dX5_seekBounds_32 ?_
        refine V_iload_n hc dX5_seekBounds_35 2 rfl ?_
        refine V_iald hc 7 rfl (by decide) hv dX5_seekBounds_36 (fun hv => ?_)
        refine V_iload_n hc dX5_seekBounds_37 1 rfl ?_
        refine V_icmp_ge (tgt := 63) hc dX5_seekBounds_38 (by decide) hv (fun hv => ?_) (fun hv => ?_)
        · exact C_63 nvi low high z vi x2 x3 K_20 hK_20 hv
        · refine V_aload_n hc dX5_seekBounds_41 0 rfl ?_
          refine V_get (C := RX5) (T := TX5) (N := 21) hc i_X5_seekBounds_5 0 rfl rfl 10 (by decide) m_X5_seekBounds_29 rfl dX5_seekBounds_42 ?_
          refine V_iload_n hc dX5_seekBounds_45 2 rfl ?_
          refine V_iald hc 7 rfl (by decide) hv dX5_seekBounds_46 (fun hv => ?_)
          refine V_aload_n hc dX5_seekBounds_47 0 rfl ?_
          refine V_get (C := RX5) (T := TX5) (N := 21) hc i_X5_seekBounds_5 0 rfl rfl 11 (by decide) m_X5_seekBounds_69 rfl dX5_seekBounds_48 ?_
          refine V_icmp_le (tgt := 63) hc dX5_seekBounds_51 (by decide) hv (fun hv => ?_) (fun hv => ?_)
          · exact C_63 nvi low high z vi x2 x3 K_20 hK_20 hv
          · refine V_aload_n hc dX5_seekBounds_54 0 rfl ?_
            refine V_get (C := RX5) (T := TX5) (N := 21) hc i_X5_seekBounds_5 0 rfl rfl 10 (by decide) m_X5_seekBounds_29 rfl dX5_seekBounds_55 ?_
            refine V_iload_n hc dX5_seekBounds_58 2 rfl ?_
            refine V_iald hc 7 rfl (by decide) hv dX5_seekBounds_59 (fun hv => ?_)
            refine V_goto (tgt := 67) hc dX5_seekBounds_60 (by decide) ?_
            exact C_67 nvi low high z vi x2 x3 (vi x3.toNat) K_20 hK_20 hv
  refine V_lv [0, 1, 2] [(0, .ref hM), (1, .int (iI x1)), (2, .int (iI x2))] rfl ?_
  unfold wp_X5_seekBounds at hv
  refine V_aload_n hc dX5_seekBounds_0 0 rfl ?_
  refine V_iload_n hc dX5_seekBounds_1 1 rfl ?_
  refine V_iload_n hc dX5_seekBounds_2 2 rfl ?_
  refine V_callVV (As := [.int (iI x1), .int (iI x2)]) hc (wc := [oB hM 5 [.ref zA, .ref spA, .ref svA, .int (iI nsv), .ref soA, .ref ikA, .ref txA, .int (iI len), .int (iI thr), .int (iI nvi), .ref viA, .int (iI low), .int (iI high), .ref srA, .ref frA, .ref toA, .ref hoA, .ref keA, .int (iI nto), .int (iI spo), .int (iI mos)], aI t zA 646 z, aI t spA 646 sp, aI t svA 3876 sv, aI t soA 1292 so, aZ t ikA 2 ik, aI t txA 60 tx, aI t viA 120 vi, aI t srA 120 sr, aI t frA 122 fr, aI t toA 122 to, aI t hoA 31 ho, aI t keA 31 ke]) (wr := []) (pmI [0, 1, 2, 3, 4, 5, 6, 7, 8, 9, 10, 11, 12] 13 rfl (by decide +kernel) rfl) rfl rfl (met_X5_seek l D t hM zA spA svA soA ikA txA viA srA frA toA hoA keA nsv len thr nvi low high nto spo mos z sp sv so ik tx vi sr fr to ho ke x1 x2 _ hv) rfl gX5_seekBounds_X5_seek rfl ⟨rfl, rfl⟩ ok_X5_seek (by decide) (Nat.le_of_ble_eq_true rfl) dX5_seekBounds_3 (by decide) (fun u9 hv => ?_)
  obtain ⟨nvi_1, low_1, high_1, vi_1⟩ := u9
  try dsimp only at hv
  refine V_perm (ws1 := [oB hM 5 [.ref zA, .ref spA, .ref svA, .int (iI nsv), .ref soA, .ref ikA, .ref txA, .int (iI len), .int (iI thr), .int (iI nvi_1), .ref viA, .int (iI low_1), .int (iI high_1), .ref srA, .ref frA, .ref toA, .ref hoA, .ref keA, .int (iI nto), .int (iI spo), .int (iI mos)], aI t zA 646 z, aI t spA 646 sp, aI t svA 3876 sv, aI t soA 1292 so, aZ t ikA 2 ik, aI t txA 60 tx, aI t viA 120 vi_1, aI t srA 120 sr, aI t frA 122 fr, aI t toA 122 to, aI t hoA 31 ho, aI t keA 31 ke]) (pmI [0, 1, 2, 3, 4, 5, 6, 7, 8, 9, 10, 11, 12] 13 rfl (by decide +kernel) rfl) ?_
  refine V_aload_n hc dX5_seekBounds_6 0 rfl ?_
  refine V_iconst hc dX5_seekBounds_7 ?_
  refine V_puti (C := RX5) (T := TX5) (N := 21) hc i_X5_seekBounds_5 0 rfl rfl 11 (by decide) m_X5_seekBounds_69 tyX5 tyX5_ok nmX5 rfl (by decide +kernel) (Nat.le_of_ble_eq_true rfl) dX5_seekBounds_8 [oB hM 5 [.ref zA, .ref spA, .ref svA, .int (iI nsv), .ref soA, .ref ikA, .ref txA, .int (iI len), .int (iI thr), .int (iI nvi_1), .ref viA, .int (iI (-1)), .int (iI high_1), .ref srA, .ref frA, .ref toA, .ref hoA, .ref keA, .int (iI nto), .int (iI spo), .int (iI mos)], aI t zA 646 z, aI t spA 646 sp, aI t svA 3876 sv, aI t soA 1292 so, aZ t ikA 2 ik, aI t txA 60 tx, aI t viA 120 vi_1, aI t srA 120 sr, aI t frA 122 fr, aI t toA 122 to, aI t hoA 31 ho, aI t keA 31 ke] rfl ?_
  refine V_aload_n hc dX5_seekBounds_11 0 rfl ?_
  refine V_sipush hc dX5_seekBounds_12 (by decide) ?_
  refine V_puti (C := RX5) (T := TX5) (N := 21) hc i_X5_seekBounds_5 0 rfl rfl 12 (by decide) m_X5_seekBounds_72 tyX5 tyX5_ok nmX5 rfl (by decide +kernel) (Nat.le_of_ble_eq_true rfl) dX5_seekBounds_15 [oB hM 5 [.ref zA, .ref spA, .ref svA, .int (iI nsv), .ref soA, .ref ikA, .ref txA, .int (iI len), .int (iI thr), .int (iI nvi_1), .ref viA, .int (iI (-1)), .int (iI 500), .ref srA, .ref frA, .ref toA, .ref hoA, .ref keA, .int (iI nto), .int (iI spo), .int (iI mos)], aI t zA 646 z, aI t spA 646 sp, aI t svA 3876 sv, aI t soA 1292 so, aZ t ikA 2 ik, aI t txA 60 tx, aI t viA 120 vi_1, aI t srA 120 sr, aI t frA 122 fr, aI t toA 122 to, aI t hoA 31 ho, aI t keA 31 ke] rfl ?_
  refine V_iconst hc dX5_seekBounds_18 ?_
  refine V_istore_n hc dX5_seekBounds_19 [(3, .int (iI 0)), (0, .ref hM), (1, .int (iI x1)), (2, .int (iI x2))] (by decide) rfl ?_
  refine V_lv [1, 3, 0] [(0, .ref hM), (2, .int (iI x2)), (3, .int (iI 0))] rfl ?_
  obtain ⟨n9, hv⟩ := hv
  exact L_20 nvi_1 z vi_1 x2 n9 (-1) 500 0 hv
abbrev W1_X5_lesserAbove (t : Nat → ClassId) (hM : Nat) (zA : Nat) (spA : Nat) (svA : Nat) (soA : Nat) (ikA : Nat) (txA : Nat) (viA : Nat) (srA : Nat) (frA : Nat) (toA : Nat) (hoA : Nat) (keA : Nat) (nsv : Int) (len : Int) (thr : Int) (nvi : Int) (low : Int) (high : Int) (nto : Int) (spo : Int) (mos : Int) (z : Nat → Int) (sp : Nat → Int) (sv : Nat → Int) (so : Nat → Int) (ik : Nat → Int) (tx : Nat → Int) (vi : Nat → Int) (sr : Nat → Int) (fr : Nat → Int) (to : Nat → Int) (ho : Nat → Int) (ke : Nat → Int) (u : Unit) : va_W := [oB hM 5 [.ref zA, .ref spA, .ref svA, .int (iI nsv), .ref soA, .ref ikA, .ref txA, .int (iI len), .int (iI thr), .int (iI nvi), .ref viA, .int (iI low), .int (iI high), .ref srA, .ref frA, .ref toA, .ref hoA, .ref keA, .int (iI nto), .int (iI spo), .int (iI mos)], aI t zA 646 z, aI t spA 646 sp, aI t svA 3876 sv, aI t soA 1292 so, aZ t ikA 2 ik, aI t txA 60 tx, aI t viA 120 vi, aI t srA 120 sr, aI t frA 122 fr, aI t toA 122 to, aI t hoA 31 ho, aI t keA 31 ke]
abbrev po_X5_lesserAbove (Q : Int → Prop) (r : Int) (u : Unit) : Prop := Q r
abbrev rm_X5_lesserAbove : Room := { frames := 0, cells := 0, slots := 0, locals := 0 }
def wp_X5_lesserAbove_4 (nvi : Int) (vi : Nat → Int) (x1 : Int) (Q : Int → Prop) (K_4 : Int → Int → Prop) (x2 : Int) (x3 : Int) : Prop := inR x3 ∧ inR (nvi - 1) ∧ (x3 ≥ nvi - 1 → Q x2) ∧ (¬ (x3 ≥ nvi - 1) → (0 ≤ x3 ∧ x3 < 120) ∧ inR (vi x3.toNat) ∧ inR x1 ∧ (vi x3.toNat ≥ x1 → K_4 (x2 + 0) (x3 + 1)) ∧ (¬ (vi x3.toNat ≥ x1) → K_4 (x2 + 1) (x3 + 1)))
def wp_X5_lesserAbove (nvi : Int) (vi : Nat → Int) (x1 : Int) (Q : Int → Prop) : Prop := (∃ n, lq2 (wp_X5_lesserAbove_4 nvi vi x1 Q) n 0 0)
theorem m_X5_lesserAbove_66 : Cond.fieldLink RX5 66 "BackgroundRebuildModel" "visitedMany" "I" ∈ wsX5_lesserAbove := by decide +kernel
theorem m_X5_lesserAbove_29 : Cond.fieldLink RX5 29 "BackgroundRebuildModel" "visited" "[I" ∈ wsX5_lesserAbove := by decide +kernel
theorem i_X5_lesserAbove_5 : ∀ w ∈ u_ws RX5 TX5 21, w ∈ wsX5_lesserAbove := by decide +kernel
theorem ok_X5_lesserAbove : yX5_lesserAbove.cls = RX5 ∧ yX5_lesserAbove.cls ≠ "java/lang/invoke/MethodHandle" ∧ yX5_lesserAbove.cls ≠ "java/lang/invoke/VarHandle" ∧ (parseMethodDescriptor yX5_lesserAbove.desc).map (fun d => d.parameters.length) = some 1 := by decide +kernel
set_option maxHeartbeats 4000000 in
set_option maxRecDepth 100000 in
theorem met_X5_lesserAbove (l : Launch) (D : va_G) (t : Nat → ClassId) (hM : Nat) (zA : Nat) (spA : Nat) (svA : Nat) (soA : Nat) (ikA : Nat) (txA : Nat) (viA : Nat) (srA : Nat) (frA : Nat) (toA : Nat) (hoA : Nat) (keA : Nat) (nsv : Int) (len : Int) (thr : Int) (nvi : Int) (low : Int) (high : Int) (nto : Int) (spo : Int) (mos : Int) (z : Nat → Int) (sp : Nat → Int) (sv : Nat → Int) (so : Nat → Int) (ik : Nat → Int) (tx : Nat → Int) (vi : Nat → Int) (sr : Nat → Int) (fr : Nat → Int) (to : Nat → Int) (ho : Nat → Int) (ke : Nat → Int) (x1 : Int) (Q : Int → Prop) (hv : wp_X5_lesserAbove nvi vi x1 Q) : MI l D t yX5_lesserAbove wsX5_lesserAbove rm_X5_lesserAbove [.ref hM, .int (iI x1)] [oB hM 5 [.ref zA, .ref spA, .ref svA, .int (iI nsv), .ref soA, .ref ikA, .ref txA, .int (iI len), .int (iI thr), .int (iI nvi), .ref viA, .int (iI low), .int (iI high), .ref srA, .ref frA, .ref toA, .ref hoA, .ref keA, .int (iI nto), .int (iI spo), .int (iI mos)], aI t zA 646 z, aI t spA 646 sp, aI t svA 3876 sv, aI t soA 1292 so, aZ t ikA 2 ik, aI t txA 60 tx, aI t viA 120 vi, aI t srA 120 sr, aI t frA 122 fr, aI t toA 122 to, aI t hoA 31 ho, aI t keA 31 ke] (W1_X5_lesserAbove t hM zA spA svA soA ikA txA viA srA frA toA hoA keA nsv len thr nvi low high nto spo mos z sp sv so ik tx vi sr fr to ho ke) (po_X5_lesserAbove Q) 0 0 := by
  refine M_ofi (cc := cX5_lesserAbove) (nL := 4) (by decide) rfl (Nat.le_of_ble_eq_true rfl) ?_
  intro p e s m args below meth c A hc hr
  have L_4 : ∀ (nvi : Int) (vi : Nat → Int) (x1 : Int) (n9 : Nat) (x2 : Int) (x3 : Int), lq2 (wp_X5_lesserAbove_4 nvi vi x1 Q) n9 x2 x3 → V p l e rm_X5_lesserAbove s m args below meth c D A 4 0 0 (MQ below (QI D A (W1_X5_lesserAbove t hM zA spA svA soA ikA txA viA srA frA toA hoA keA nsv len thr nvi low high nto spo mos z sp sv so ik tx vi sr fr to ho ke) (po_X5_lesserAbove Q)) args s 0 0 A) 4 [(0, .ref hM), (1, .int (iI x1)), (2, .int (iI x2)), (3, .int (iI x3))] [] [oB hM 5 [.ref zA, .ref spA, .ref svA, .int (iI nsv), .ref soA, .ref ikA, .ref txA, .int (iI len), .int (iI thr), .int (iI nvi), .ref viA, .int (iI low), .int (iI high), .ref srA, .ref frA, .ref toA, .ref hoA, .ref keA, .int (iI nto), .int (iI spo), .int (iI mos)], aI t zA 646 z, aI t spA 646 sp, aI t svA 3876 sv, aI t soA 1292 so, aZ t ikA 2 ik, aI t txA 60 tx, aI t viA 120 vi, aI t srA 120 sr, aI t frA 122 fr, aI t toA 122 to, aI t hoA 31 ho, aI t keA 31 ke] := by
    intro nvi vi x1 n9
    induction n9 with
    | zero =>
      intro x2 x3 hv
      exact hv.elim
    | succ n9 ih =>
      intro x2 x3 hv
      have hv : wp_X5_lesserAbove_4 nvi vi x1 Q (lq2 (wp_X5_lesserAbove_4 nvi vi x1 Q) n9) x2 x3 := hv
      generalize lq2 (wp_X5_lesserAbove_4 nvi vi x1 Q) n9 = K_4 at hv ih
      have hK_4 := ih
      unfold wp_X5_lesserAbove_4 at hv
      refine V_iload_n hc dX5_lesserAbove_4 3 rfl ?_
      refine V_aload_n hc dX5_lesserAbove_5 0 rfl ?_
      refine V_get (C := RX5) (T := TX5) (N := 21) hc i_X5_lesserAbove_5 0 rfl rfl 9 (by decide) m_X5_lesserAbove_66 rfl dX5_lesserAbove_6 ?_
      refine V_iconst hc dX5_lesserAbove_9 ?_
      refine V_isub hc dX5_lesserAbove_10 ?_
      refine V_icmp_ge (tgt := 38) hc dX5_lesserAbove_11 (by decide) hv (fun hv => ?_) (fun hv => ?_)
      · refine V_iload_n hc dX5_lesserAbove_38 2 rfl ?_
        exact V_iret hc hr () hv rfl dX5_lesserAbove_39
      · refine V_iload_n hc dX5_lesserAbove_14 2 rfl ?_
        refine V_aload_n hc dX5_lesserAbove_15 0 rfl ?_
        refine V_get (C := RX5) (T := TX5) (N := 21) hc i_X5_lesserAbove_5 0 rfl rfl 10 (by decide) m_X5_lesserAbove_29 rfl dX5_lesserAbove_16 ?_
        refine V_iload_n hc dX5_lesserAbove_19 3 rfl ?_
        refine V_iald hc 7 rfl (by decide) hv dX5_lesserAbove_20 (fun hv => ?_)
        refine V_iload_n hc dX5_lesserAbove_21 1 rfl ?_
        refine V_icmp_ge (tgt := 29) hc dX5_lesserAbove_22 (by decide) hv (fun hv => ?_) (fun hv => ?_)
        · refine V_iconst hc dX5_lesserAbove_29 ?_
          refine V_iadd hc dX5_lesserAbove_30 ?_
          refine V_istore_n hc dX5_lesserAbove_31 [(2, .int (iI (x2 + 0))), (0, .ref hM), (1, .int (iI x1)), (3, .int (iI x3))] (by decide) rfl ?_
          refine V_iinc hc dX5_lesserAbove_32 3 rfl [(3, .int (iI (x3 + 1))), (2, .int (iI (x2 + 0))), (0, .ref hM), (1, .int (iI x1))] (by decide) rfl ?_
          refine V_goto (tgt := 4) hc dX5_lesserAbove_35 (by decide) ?_
          refine V_lv [2, 3, 1, 0] [(0, .ref hM), (1, .int (iI x1)), (2, .int (iI (x2 + 0))), (3, .int (iI (x3 + 1)))] rfl ?_
          exact hK_4 (x2 + 0) (x3 + 1) hv
        · refine V_iconst hc dX5_lesserAbove_25 ?_
          refine V_goto (tgt := 30) hc dX5_lesserAbove_26 (by decide) ?_
          refine V_iadd hc dX5_lesserAbove_30 ?_
          refine V_istore_n hc dX5_lesserAbove_31 [(2, .int (iI (x2 + 1))), (0, .ref hM), (1, .int (iI x1)), (3, .int (iI x3))] (by decide) rfl ?_
          refine V_iinc hc dX5_lesserAbove_32 3 rfl [(3, .int (iI (x3 + 1))), (2, .int (iI (x2 + 1))), (0, .ref hM), (1, .int (iI x1))] (by decide) rfl ?_
          refine V_goto (tgt := 4) hc dX5_lesserAbove_35 (by decide) ?_
          refine V_lv [2, 3, 1, 0] [(0, .ref hM), (1, .int (iI x1)), (2, .int (iI (x2 + 1))), (3, .int (iI (x3 + 1)))] rfl ?_
          exact hK_4 (x2 + 1) (x3 + 1) hv
  refine V_lv [0, 1] [(0, .ref hM), (1, .int (iI x1))] rfl ?_
  unfold wp_X5_lesserAbove at hv
  refine V_iconst hc dX5_lesserAbove_0 ?_
  refine V_istore_n hc dX5_lesserAbove_1 [(2, .int (iI 0)), (0, .ref hM), (1, .int (iI x1))] (by decide) rfl ?_
  refine V_iconst hc dX5_lesserAbove_2 ?_
  refine V_istore_n hc dX5_lesserAbove_3 [(3, .int (iI 0)), (2, .int (iI 0)), (0, .ref hM), (1, .int (iI x1))] (by decide) rfl ?_
  refine V_lv [2, 3, 1, 0] [(0, .ref hM), (1, .int (iI x1)), (2, .int (iI 0)), (3, .int (iI 0))] rfl ?_
  obtain ⟨n9, hv⟩ := hv
  exact L_4 nvi vi x1 n9 0 0 hv
abbrev W1_X5_numberOf (t : Nat → ClassId) (hM : Nat) (zA : Nat) (spA : Nat) (svA : Nat) (soA : Nat) (ikA : Nat) (txA : Nat) (viA : Nat) (srA : Nat) (frA : Nat) (toA : Nat) (hoA : Nat) (keA : Nat) (nsv : Int) (len : Int) (thr : Int) (nto : Int) (spo : Int) (mos : Int) (z : Nat → Int) (sp : Nat → Int) (sv : Nat → Int) (so : Nat → Int) (ik : Nat → Int) (tx : Nat → Int) (sr : Nat → Int) (fr : Nat → Int) (to : Nat → Int) (ho : Nat → Int) (ke : Nat → Int) (u : (Int) × (Int) × (Int) × (Nat → Int)) : va_W := [oB hM 5 [.ref zA, .ref spA, .ref svA, .int (iI nsv), .ref soA, .ref ikA, .ref txA, .int (iI len), .int (iI thr), .int (iI u.1), .ref viA, .int (iI u.2.1), .int (iI u.2.2.1), .ref srA, .ref frA, .ref toA, .ref hoA, .ref keA, .int (iI nto), .int (iI spo), .int (iI mos)], aI t zA 646 z, aI t spA 646 sp, aI t svA 3876 sv, aI t soA 1292 so, aZ t ikA 2 ik, aI t txA 60 tx, aI t viA 120 u.2.2.2, aI t srA 120 sr, aI t frA 122 fr, aI t toA 122 to, aI t hoA 31 ho, aI t keA 31 ke]
abbrev po_X5_numberOf (Q : Int → (Int) → (Int) → (Int) → (Nat → Int) → Prop) (r : Int) (u : (Int) × (Int) × (Int) × (Nat → Int)) : Prop := Q r u.1 u.2.1 u.2.2.1 u.2.2.2
abbrev rm_X5_numberOf : Room := { frames := 2, cells := 0, slots := 0, locals := 48 }
def wp_X5_numberOf (nvi : Int) (low : Int) (high : Int) (z : Nat → Int) (vi : Nat → Int) (x1 : Int) (x2 : Int) (Q : Int → (Int) → (Int) → (Int) → (Nat → Int) → Prop) : Prop := wp_X5_seekBounds nvi low high z vi x1 x2 (fun nvi_1 low_1 high_1 vi_1 => wp_X5_between z x1 (-1) low_1 0 (fun r_2 => inR low_1 ∧ (low_1 < 0 → wp_X5_lesserAbove nvi_1 vi_1 x2 (fun r_3 => Q ((((nvi_1 - 1) + r_2) + 0) - r_3) nvi_1 low_1 high_1 vi_1)) ∧ (¬ (low_1 < 0) → wp_X5_lesserAbove nvi_1 vi_1 x2 (fun r_4 => Q ((((nvi_1 - 1) + r_2) + 1) - r_4) nvi_1 low_1 high_1 vi_1))))
theorem m_X5_numberOf_66 : Cond.fieldLink RX5 66 "BackgroundRebuildModel" "visitedMany" "I" ∈ wsX5_numberOf := by decide +kernel
theorem m_X5_numberOf_69 : Cond.fieldLink RX5 69 "BackgroundRebuildModel" "low" "I" ∈ wsX5_numberOf := by decide +kernel
theorem i_X5_numberOf_5 : ∀ w ∈ u_ws RX5 TX5 21, w ∈ wsX5_numberOf := by decide +kernel
theorem ok_X5_numberOf : yX5_numberOf.cls = RX5 ∧ yX5_numberOf.cls ≠ "java/lang/invoke/MethodHandle" ∧ yX5_numberOf.cls ≠ "java/lang/invoke/VarHandle" ∧ (parseMethodDescriptor yX5_numberOf.desc).map (fun d => d.parameters.length) = some 2 := by decide +kernel
set_option maxHeartbeats 4000000 in
set_option maxRecDepth 100000 in
theorem met_X5_numberOf (l : Launch) (D : va_G) (t : Nat → ClassId) (hM : Nat) (zA : Nat) (spA : Nat) (svA : Nat) (soA : Nat) (ikA : Nat) (txA : Nat) (viA : Nat) (srA : Nat) (frA : Nat) (toA : Nat) (hoA : Nat) (keA : Nat) (nsv : Int) (len : Int) (thr : Int) (nvi : Int) (low : Int) (high : Int) (nto : Int) (spo : Int) (mos : Int) (z : Nat → Int) (sp : Nat → Int) (sv : Nat → Int) (so : Nat → Int) (ik : Nat → Int) (tx : Nat → Int) (vi : Nat → Int) (sr : Nat → Int) (fr : Nat → Int) (to : Nat → Int) (ho : Nat → Int) (ke : Nat → Int) (x1 : Int) (x2 : Int) (Q : Int → (Int) → (Int) → (Int) → (Nat → Int) → Prop) (hv : wp_X5_numberOf nvi low high z vi x1 x2 Q) : MI l D t yX5_numberOf wsX5_numberOf rm_X5_numberOf [.ref hM, .int (iI x1), .int (iI x2)] [oB hM 5 [.ref zA, .ref spA, .ref svA, .int (iI nsv), .ref soA, .ref ikA, .ref txA, .int (iI len), .int (iI thr), .int (iI nvi), .ref viA, .int (iI low), .int (iI high), .ref srA, .ref frA, .ref toA, .ref hoA, .ref keA, .int (iI nto), .int (iI spo), .int (iI mos)], aI t zA 646 z, aI t spA 646 sp, aI t svA 3876 sv, aI t soA 1292 so, aZ t ikA 2 ik, aI t txA 60 tx, aI t viA 120 vi, aI t srA 120 sr, aI t frA 122 fr, aI t toA 122 to, aI t hoA 31 ho, aI t keA 31 ke] (W1_X5_numberOf t hM zA spA svA soA ikA txA viA srA frA toA hoA keA nsv len thr nto spo mos z sp sv so ik tx sr fr to ho ke) (po_X5_numberOf Q) 0 0 := by
  refine M_ofi (cc := cX5_numberOf) (nL := 3) (by decide) rfl (Nat.le_of_ble_eq_true rfl) ?_
  intro p e s m args below meth c A hc hr
  refine V_lv [0, 1, 2] [(0, .ref hM), (1, .int (iI x1)), (2, .int (iI x2))] rfl ?_
  unfold wp_X5_numberOf at hv
  refine V_aload_n hc dX5_numberOf_0 0 rfl ?_
  refine V_iload_n hc dX5_numberOf_1 1 rfl ?_
  refine V_iload_n hc dX5_numberOf_2 2 rfl ?_
  refine V_callVV (As := [.int (iI x1), .int (iI x2)]) hc (wc := [oB hM 5 [.ref zA, .ref spA, .ref svA, .int (iI nsv), .ref soA, .ref ikA, .ref txA, .int (iI len), .int (iI thr), .int (iI nvi), .ref viA, .int (iI low), .int (iI high), .ref srA, .ref frA, .ref toA, .ref hoA, .ref keA, .int (iI nto), .int (iI spo), .int (iI mos)], aI t zA 646 z, aI t spA 646 sp, aI t svA 3876 sv, aI t soA 1292 so, aZ t ikA 2 ik, aI t txA 60 tx, aI t viA 120 vi, aI t srA 120 sr, aI t frA 122 fr, aI t toA 122 to, aI t hoA 31 ho, aI t keA 31 ke]) (wr := []) (pmI [0, 1, 2, 3, 4, 5, 6, 7, 8, 9, 10, 11, 12] 13 rfl (by decide +kernel) rfl) rfl rfl (met_X5_seekBounds l D t hM zA spA svA soA ikA txA viA srA frA toA hoA keA nsv len thr nvi low high nto spo mos z sp sv so ik tx vi sr fr to ho ke x1 x2 _ hv) rfl gX5_numberOf_X5_seekBounds rfl ⟨rfl, rfl⟩ ok_X5_seekBounds (by decide) (Nat.le_of_ble_eq_true rfl) dX5_numberOf_3 (by decide) (fun u9 hv => ?_)
  obtain ⟨nvi_1, low_1, high_1, vi_1⟩ := u9
  try dsimp only at hv
  refine V_perm (ws1 := [oB hM 5 [.ref zA, .ref spA, .ref svA, .int (iI nsv), .ref soA, .ref ikA, .ref txA, .int (iI len), .int (iI thr), .int (iI nvi_1), .ref viA, .int (iI low_1), .int (iI high_1), .ref srA, .ref frA, .ref toA, .ref hoA, .ref keA, .int (iI nto), .int (iI spo), .int (iI mos)], aI t zA 646 z, aI t spA 646 sp, aI t svA 3876 sv, aI t soA 1292 so, aZ t ikA 2 ik, aI t txA 60 tx, aI t viA 120 vi_1, aI t srA 120 sr, aI t frA 122 fr, aI t toA 122 to, aI t hoA 31 ho, aI t keA 31 ke]) (pmI [0, 1, 2, 3, 4, 5, 6, 7, 8, 9, 10, 11, 12] 13 rfl (by decide +kernel) rfl) ?_
  refine V_aload_n hc dX5_numberOf_6 0 rfl ?_
  refine V_get (C := RX5) (T := TX5) (N := 21) hc i_X5_numberOf_5 0 rfl rfl 9 (by decide) m_X5_numberOf_66 rfl dX5_numberOf_7 ?_
  refine V_iconst hc dX5_numberOf_10 ?_
  refine V_isub hc dX5_numberOf_11 ?_
  refine V_aload_n hc dX5_numberOf_12 0 rfl ?_
  refine V_iload_n hc dX5_numberOf_13 1 rfl ?_
  refine V_iconst hc dX5_numberOf_14 ?_
  refine V_aload_n hc dX5_numberOf_15 0 rfl ?_
  refine V_get (C := RX5) (T := TX5) (N := 21) hc i_X5_numberOf_5 0 rfl rfl 11 (by decide) m_X5_numberOf_69 rfl dX5_numberOf_16 ?_
  refine V_iconst hc dX5_numberOf_19 ?_
  refine V_callVI (As := [.int (iI x1), .int (iI (-1)), .int (iI low_1), .int (iI 0)]) hc (wc := [oB hM 5 [.ref zA, .ref spA, .ref svA, .int (iI nsv), .ref soA, .ref ikA, .ref txA, .int (iI len), .int (iI thr), .int (iI nvi_1), .ref viA, .int (iI low_1), .int (iI high_1), .ref srA, .ref frA, .ref toA, .ref hoA, .ref keA, .int (iI nto), .int (iI spo), .int (iI mos)], aI t zA 646 z, aI t spA 646 sp, aI t svA 3876 sv, aI t soA 1292 so, aZ t ikA 2 ik, aI t txA 60 tx, aI t viA 120 vi_1, aI t srA 120 sr, aI t frA 122 fr, aI t toA 122 to, aI t hoA 31 ho, aI t keA 31 ke]) (wr := []) (pmI [0, 1, 2, 3, 4, 5, 6, 7, 8, 9, 10, 11, 12] 13 rfl (by decide +kernel) rfl) rfl rfl (met_X5_between l D t hM zA spA svA soA ikA txA viA srA frA toA hoA keA nsv len thr nvi_1 low_1 high_1 nto spo mos z sp sv so ik tx vi_1 sr fr to ho ke x1 (-1) low_1 0 _ hv) rfl gX5_numberOf_X5_between rfl ⟨rfl, rfl⟩ ok_X5_between (by decide) (Nat.le_of_ble_eq_true rfl) dX5_numberOf_20 (by decide) (fun r_2 _ hv => ?_)
  try dsimp only at hv
  refine V_perm (ws1 := [oB hM 5 [.ref zA, .ref spA, .ref svA, .int (iI nsv), .ref soA, .ref ikA, .ref txA, .int (iI len), .int (iI thr), .int (iI nvi_1), .ref viA, .int (iI low_1), .int (iI high_1), .ref srA, .ref frA, .ref toA, .ref hoA, .ref keA, .int (iI nto), .int (iI spo), .int (iI mos)], aI t zA 646 z, aI t spA 646 sp, aI t svA 3876 sv, aI t soA 1292 so, aZ t ikA 2 ik, aI t txA 60 tx, aI t viA 120 vi_1, aI t srA 120 sr, aI t frA 122 fr, aI t toA 122 to, aI t hoA 31 ho, aI t keA 31 ke]) (pmI [0, 1, 2, 3, 4, 5, 6, 7, 8, 9, 10, 11, 12] 13 rfl (by decide +kernel) rfl) ?_
  refine V_iadd hc dX5_numberOf_23 ?_
  refine V_aload_n hc dX5_numberOf_24 0 rfl ?_
  refine V_get (C := RX5) (T := TX5) (N := 21) hc i_X5_numberOf_5 0 rfl rfl 11 (by decide) m_X5_numberOf_69 rfl dX5_numberOf_25 ?_
  refine V_if_lt (tgt := 35) hc dX5_numberOf_28 (by decide) hv (fun hv => ?_) (fun hv => ?_)
  · refine V_iconst hc dX5_numberOf_35 ?_
    refine V_iadd hc dX5_numberOf_36 ?_
    refine V_aload_n hc dX5_numberOf_37 0 rfl ?_
    refine V_iload_n hc dX5_numberOf_38 2 rfl ?_
    refine V_callVI (As := [.int (iI x2)]) hc (wc := [oB hM 5 [.ref zA, .ref spA, .ref svA, .int (iI nsv), .ref soA, .ref ikA, .ref txA, .int (iI len), .int (iI thr), .int (iI nvi_1), .ref viA, .int (iI low_1), .int (iI high_1), .ref srA, .ref frA, .ref toA, .ref hoA, .ref keA, .int (iI nto), .int (iI spo), .int (iI mos)], aI t zA 646 z, aI t spA 646 sp, aI t svA 3876 sv, aI t soA 1292 so, aZ t ikA 2 ik, aI t txA 60 tx, aI t viA 120 vi_1, aI t srA 120 sr, aI t frA 122 fr, aI t toA 122 to, aI t hoA 31 ho, aI t keA 31 ke]) (wr := []) (pmI [0, 1, 2, 3, 4, 5, 6, 7, 8, 9, 10, 11, 12] 13 rfl (by decide +kernel) rfl) rfl rfl (met_X5_lesserAbove l D t hM zA spA svA soA ikA txA viA srA frA toA hoA keA nsv len thr nvi_1 low_1 high_1 nto spo mos z sp sv so ik tx vi_1 sr fr to ho ke x2 _ hv) rfl gX5_numberOf_X5_lesserAbove rfl ⟨rfl, rfl⟩ ok_X5_lesserAbove (by decide) (Nat.le_of_ble_eq_true rfl) dX5_numberOf_39 (by decide) (fun r_3 _ hv => ?_)
    try dsimp only at hv
    refine V_perm (ws1 := [oB hM 5 [.ref zA, .ref spA, .ref svA, .int (iI nsv), .ref soA, .ref ikA, .ref txA, .int (iI len), .int (iI thr), .int (iI nvi_1), .ref viA, .int (iI low_1), .int (iI high_1), .ref srA, .ref frA, .ref toA, .ref hoA, .ref keA, .int (iI nto), .int (iI spo), .int (iI mos)], aI t zA 646 z, aI t spA 646 sp, aI t svA 3876 sv, aI t soA 1292 so, aZ t ikA 2 ik, aI t txA 60 tx, aI t viA 120 vi_1, aI t srA 120 sr, aI t frA 122 fr, aI t toA 122 to, aI t hoA 31 ho, aI t keA 31 ke]) (pmI [0, 1, 2, 3, 4, 5, 6, 7, 8, 9, 10, 11, 12] 13 rfl (by decide +kernel) rfl) ?_
    refine V_isub hc dX5_numberOf_42 ?_
    exact V_iret hc hr (nvi_1, low_1, high_1, vi_1) hv rfl dX5_numberOf_43
  · refine V_iconst hc dX5_numberOf_31 ?_
    refine V_goto (tgt := 36) hc dX5_numberOf_32 (by decide) ?_
    refine V_iadd hc dX5_numberOf_36 ?_
    refine V_aload_n hc dX5_numberOf_37 0 rfl ?_
    refine V_iload_n hc dX5_numberOf_38 2 rfl ?_
    refine V_callVI (As := [.int (iI x2)]) hc (wc := [oB hM 5 [.ref zA, .ref spA, .ref svA, .int (iI nsv), .ref soA, .ref ikA, .ref txA, .int (iI len), .int (iI thr), .int (iI nvi_1), .ref viA, .int (iI low_1), .int (iI high_1), .ref srA, .ref frA, .ref toA, .ref hoA, .ref keA, .int (iI nto), .int (iI spo), .int (iI mos)], aI t zA 646 z, aI t spA 646 sp, aI t svA 3876 sv, aI t soA 1292 so, aZ t ikA 2 ik, aI t txA 60 tx, aI t viA 120 vi_1, aI t srA 120 sr, aI t frA 122 fr, aI t toA 122 to, aI t hoA 31 ho, aI t keA 31 ke]) (wr := []) (pmI [0, 1, 2, 3, 4, 5, 6, 7, 8, 9, 10, 11, 12] 13 rfl (by decide +kernel) rfl) rfl rfl (met_X5_lesserAbove l D t hM zA spA svA soA ikA txA viA srA frA toA hoA keA nsv len thr nvi_1 low_1 high_1 nto spo mos z sp sv so ik tx vi_1 sr fr to ho ke x2 _ hv) rfl gX5_numberOf_X5_lesserAbove rfl ⟨rfl, rfl⟩ ok_X5_lesserAbove (by decide) (Nat.le_of_ble_eq_true rfl) dX5_numberOf_39 (by decide) (fun r_4 _ hv => ?_)
    try dsimp only at hv
    refine V_perm (ws1 := [oB hM 5 [.ref zA, .ref spA, .ref svA, .int (iI nsv), .ref soA, .ref ikA, .ref txA, .int (iI len), .int (iI thr), .int (iI nvi_1), .ref viA, .int (iI low_1), .int (iI high_1), .ref srA, .ref frA, .ref toA, .ref hoA, .ref keA, .int (iI nto), .int (iI spo), .int (iI mos)], aI t zA 646 z, aI t spA 646 sp, aI t svA 3876 sv, aI t soA 1292 so, aZ t ikA 2 ik, aI t txA 60 tx, aI t viA 120 vi_1, aI t srA 120 sr, aI t frA 122 fr, aI t toA 122 to, aI t hoA 31 ho, aI t keA 31 ke]) (pmI [0, 1, 2, 3, 4, 5, 6, 7, 8, 9, 10, 11, 12] 13 rfl (by decide +kernel) rfl) ?_
    refine V_isub hc dX5_numberOf_42 ?_
    exact V_iret hc hr (nvi_1, low_1, high_1, vi_1) hv rfl dX5_numberOf_43
abbrev W1_X5_aboutNode (t : Nat → ClassId) (hM : Nat) (zA : Nat) (spA : Nat) (svA : Nat) (soA : Nat) (ikA : Nat) (txA : Nat) (viA : Nat) (srA : Nat) (frA : Nat) (toA : Nat) (hoA : Nat) (keA : Nat) (nsv : Int) (len : Int) (thr : Int) (nto : Int) (spo : Int) (mos : Int) (z : Nat → Int) (sp : Nat → Int) (sv : Nat → Int) (so : Nat → Int) (ik : Nat → Int) (tx : Nat → Int) (sr : Nat → Int) (fr : Nat → Int) (to : Nat → Int) (ho : Nat → Int) (ke : Nat → Int) (u : (Int) × (Int) × (Int) × (Nat → Int)) : va_W := [oB hM 5 [.ref zA, .ref spA, .ref svA, .int (iI nsv), .ref soA, .ref ikA, .ref txA, .int (iI len), .int (iI thr), .int (iI u.1), .ref viA, .int (iI u.2.1), .int (iI u.2.2.1), .ref srA, .ref frA, .ref toA, .ref hoA, .ref keA, .int (iI nto), .int (iI spo), .int (iI mos)], aI t zA 646 z, aI t spA 646 sp, aI t svA 3876 sv, aI t soA 1292 so, aZ t ikA 2 ik, aI t txA 60 tx, aI t viA 120 u.2.2.2, aI t srA 120 sr, aI t frA 122 fr, aI t toA 122 to, aI t hoA 31 ho, aI t keA 31 ke]
abbrev po_X5_aboutNode (Q : Int → (Int) → (Int) → (Int) → (Nat → Int) → Prop) (r : Int) (u : (Int) × (Int) × (Int) × (Nat → Int)) : Prop := Q r u.1 u.2.1 u.2.2.1 u.2.2.2
abbrev rm_X5_aboutNode : Room := { frames := 2, cells := 0, slots := 0, locals := 48 }
def wp_X5_aboutNode (nvi : Int) (low : Int) (high : Int) (z : Nat → Int) (vi : Nat → Int) (x1 : Int) (x2 : Int) (x3 : Int) (Q : Int → (Int) → (Int) → (Int) → (Nat → Int) → Prop) : Prop := (0 ≤ (x1 + 1) + x2 ∧ (x1 + 1) + x2 < 646) ∧ wp_X5_seekBounds nvi low high z vi x1 (z ((x1 + 1) + x2).toNat) (fun nvi_1 low_1 high_1 vi_1 => inR x3 ∧ (x3 = 0 → Q (z ((x1 + 1) + x2).toNat) nvi_1 low_1 high_1 vi_1) ∧ (x3 = 1 → (0 ≤ (x1 + 121) + x2 ∧ (x1 + 121) + x2 < 646) ∧ Q (z ((x1 + 121) + x2).toNat) nvi_1 low_1 high_1 vi_1) ∧ (x3 = 2 → Q nvi_1 nvi_1 low_1 high_1 vi_1) ∧ (x3 < 0 ∨ 2 < x3 → inR x3 ∧ (x3 ≠ 4 → wp_X5_between z x1 low_1 high_1 0 (fun r_2 => Q r_2 nvi_1 low_1 high_1 vi_1)) ∧ (¬ (x3 ≠ 4) → wp_X5_between z x1 low_1 high_1 1 (fun r_3 => Q r_3 nvi_1 low_1 high_1 vi_1))))
theorem m_X5_aboutNode_7 : Cond.fieldLink RX5 7 "BackgroundRebuildModel" "z" "[I" ∈ wsX5_aboutNode := by decide +kernel
theorem m_X5_aboutNode_66 : Cond.fieldLink RX5 66 "BackgroundRebuildModel" "visitedMany" "I" ∈ wsX5_aboutNode := by decide +kernel
theorem m_X5_aboutNode_69 : Cond.fieldLink RX5 69 "BackgroundRebuildModel" "low" "I" ∈ wsX5_aboutNode := by decide +kernel
theorem m_X5_aboutNode_72 : Cond.fieldLink RX5 72 "BackgroundRebuildModel" "high" "I" ∈ wsX5_aboutNode := by decide +kernel
theorem i_X5_aboutNode_5 : ∀ w ∈ u_ws RX5 TX5 21, w ∈ wsX5_aboutNode := by decide +kernel
theorem ok_X5_aboutNode : yX5_aboutNode.cls = RX5 ∧ yX5_aboutNode.cls ≠ "java/lang/invoke/MethodHandle" ∧ yX5_aboutNode.cls ≠ "java/lang/invoke/VarHandle" ∧ (parseMethodDescriptor yX5_aboutNode.desc).map (fun d => d.parameters.length) = some 3 := by decide +kernel
set_option maxHeartbeats 4000000 in
set_option maxRecDepth 100000 in
theorem met_X5_aboutNode (l : Launch) (D : va_G) (t : Nat → ClassId) (hM : Nat) (zA : Nat) (spA : Nat) (svA : Nat) (soA : Nat) (ikA : Nat) (txA : Nat) (viA : Nat) (srA : Nat) (frA : Nat) (toA : Nat) (hoA : Nat) (keA : Nat) (nsv : Int) (len : Int) (thr : Int) (nvi : Int) (low : Int) (high : Int) (nto : Int) (spo : Int) (mos : Int) (z : Nat → Int) (sp : Nat → Int) (sv : Nat → Int) (so : Nat → Int) (ik : Nat → Int) (tx : Nat → Int) (vi : Nat → Int) (sr : Nat → Int) (fr : Nat → Int) (to : Nat → Int) (ho : Nat → Int) (ke : Nat → Int) (x1 : Int) (x2 : Int) (x3 : Int) (Q : Int → (Int) → (Int) → (Int) → (Nat → Int) → Prop) (hv : wp_X5_aboutNode nvi low high z vi x1 x2 x3 Q) : MI l D t yX5_aboutNode wsX5_aboutNode rm_X5_aboutNode [.ref hM, .int (iI x1), .int (iI x2), .int (iI x3)] [oB hM 5 [.ref zA, .ref spA, .ref svA, .int (iI nsv), .ref soA, .ref ikA, .ref txA, .int (iI len), .int (iI thr), .int (iI nvi), .ref viA, .int (iI low), .int (iI high), .ref srA, .ref frA, .ref toA, .ref hoA, .ref keA, .int (iI nto), .int (iI spo), .int (iI mos)], aI t zA 646 z, aI t spA 646 sp, aI t svA 3876 sv, aI t soA 1292 so, aZ t ikA 2 ik, aI t txA 60 tx, aI t viA 120 vi, aI t srA 120 sr, aI t frA 122 fr, aI t toA 122 to, aI t hoA 31 ho, aI t keA 31 ke] (W1_X5_aboutNode t hM zA spA svA soA ikA txA viA srA frA toA hoA keA nsv len thr nto spo mos z sp sv so ik tx sr fr to ho ke) (po_X5_aboutNode Q) 0 0 := by
  refine M_ofi (cc := cX5_aboutNode) (nL := 5) (by decide) rfl (Nat.le_of_ble_eq_true rfl) ?_
  intro p e s m args below meth c A hc hr
  refine V_lv [0, 1, 2, 3] [(0, .ref hM), (1, .int (iI x1)), (2, .int (iI x2)), (3, .int (iI x3))] rfl ?_
  unfold wp_X5_aboutNode at hv
  refine V_aload_n hc dX5_aboutNode_0 0 rfl ?_
  refine V_get (C := RX5) (T := TX5) (N := 21) hc i_X5_aboutNode_5 0 rfl rfl 0 (by decide) m_X5_aboutNode_7 rfl dX5_aboutNode_1 ?_
  refine V_iload_n hc dX5_aboutNode_4 1 rfl ?_
  refine V_iconst hc dX5_aboutNode_5 ?_
  refine V_iadd hc dX5_aboutNode_6 ?_
  refine V_iload_n hc dX5_aboutNode_7 2 rfl ?_
  refine V_iadd hc dX5_aboutNode_8 ?_
  refine V_iald hc 1 rfl (by decide) hv dX5_aboutNode_9 (fun hv => ?_)
  refine V_istore hc dX5_aboutNode_10 [(4, .int (iI (z ((x1 + 1) + x2).toNat))), (0, .ref hM), (1, .int (iI x1)), (2, .int (iI x2)), (3, .int (iI x3))] (by decide) rfl ?_
  refine V_aload_n hc dX5_aboutNode_12 1 rfl ?_
  refine V_iload_n hc dX5_aboutNode_13 2 rfl ?_
  refine V_iload hc dX5_aboutNode_14 0 rfl ?_
  refine V_callVV (As := [.int (iI x1), .int (iI (z ((x1 + 1) + x2).toNat))]) hc (wc := [oB hM 5 [.ref zA, .ref spA, .ref svA, .int (iI nsv), .ref soA, .ref ikA, .ref txA, .int (iI len), .int (iI thr), .int (iI nvi), .ref viA, .int (iI low), .int (iI high), .ref srA, .ref frA, .ref toA, .ref hoA, .ref keA, .int (iI nto), .int (iI spo), .int (iI mos)], aI t zA 646 z, aI t spA 646 sp, aI t svA 3876 sv, aI t soA 1292 so, aZ t ikA 2 ik, aI t txA 60 tx, aI t viA 120 vi, aI t srA 120 sr, aI t frA 122 fr, aI t toA 122 to, aI t hoA 31 ho, aI t keA 31 ke]) (wr := []) (pmI [0, 1, 2, 3, 4, 5, 6, 7, 8, 9, 10, 11, 12] 13 rfl (by decide +kernel) rfl) rfl rfl (met_X5_seekBounds l D t hM zA spA svA soA ikA txA viA srA frA toA hoA keA nsv len thr nvi low high nto spo mos z sp sv so ik tx vi sr fr to ho ke x1 (z ((x1 + 1) + x2).toNat) _ hv) rfl gX5_aboutNode_X5_seekBounds rfl ⟨rfl, rfl⟩ ok_X5_seekBounds (by decide) (Nat.le_of_ble_eq_true rfl) dX5_aboutNode_16 (by decide) (fun u9 hv => ?_)
  obtain ⟨nvi_1, low_1, high_1, vi_1⟩ := u9
  try dsimp only at hv
  refine V_perm (ws1 := [oB hM 5 [.ref zA, .ref spA, .ref svA, .int (iI nsv), .ref soA, .ref ikA, .ref txA, .int (iI len), .int (iI thr), .int (iI nvi_1), .ref viA, .int (iI low_1), .int (iI high_1), .ref srA, .ref frA, .ref toA, .ref hoA, .ref keA, .int (iI nto), .int (iI spo), .int (iI mos)], aI t zA 646 z, aI t spA 646 sp, aI t svA 3876 sv, aI t soA 1292 so, aZ t ikA 2 ik, aI t txA 60 tx, aI t viA 120 vi_1, aI t srA 120 sr, aI t frA 122 fr, aI t toA 122 to, aI t hoA 31 ho, aI t keA 31 ke]) (pmI [0, 1, 2, 3, 4, 5, 6, 7, 8, 9, 10, 11, 12] 13 rfl (by decide +kernel) rfl) ?_
  refine V_iload_n hc dX5_aboutNode_19 4 rfl ?_
  obtain ⟨hr9, hs0, hs1, hs2, hsd⟩ := hv
  by_cases e0 : x3 = 0
  · have hv := hs0 e0
    refine V_tableIn (off := 28) (tgt := 48) hc dX5_aboutNode_20 hr9 (by omega) (by omega) (by rw [e0]; rfl) (by decide) ?_
    refine V_iload hc dX5_aboutNode_48 0 rfl ?_
    exact V_iret hc hr (nvi_1, low_1, high_1, vi_1) hv rfl dX5_aboutNode_50
  by_cases e1 : x3 = 1
  · have hv := hs1 e1
    refine V_tableIn (off := 31) (tgt := 51) hc dX5_aboutNode_20 hr9 (by omega) (by omega) (by rw [e1]; rfl) (by decide) ?_
    refine V_aload_n hc dX5_aboutNode_51 1 rfl ?_
    refine V_get (C := RX5) (T := TX5) (N := 21) hc i_X5_aboutNode_5 0 rfl rfl 0 (by decide) m_X5_aboutNode_7 rfl dX5_aboutNode_52 ?_
    refine V_iload_n hc dX5_aboutNode_55 2 rfl ?_
    refine V_bipush hc dX5_aboutNode_56 (by decide) ?_
    refine V_iadd hc dX5_aboutNode_58 ?_
    refine V_iload_n hc dX5_aboutNode_59 3 rfl ?_
    refine V_iadd hc dX5_aboutNode_60 ?_
    refine V_iald hc 1 rfl (by decide) hv dX5_aboutNode_61 (fun hv => ?_)
    exact V_iret hc hr (nvi_1, low_1, high_1, vi_1) hv rfl dX5_aboutNode_62
  by_cases e2 : x3 = 2
  · have hv := hs2 e2
    refine V_tableIn (off := 43) (tgt := 63) hc dX5_aboutNode_20 hr9 (by omega) (by omega) (by rw [e2]; rfl) (by decide) ?_
    refine V_aload_n hc dX5_aboutNode_63 1 rfl ?_
    refine V_get (C := RX5) (T := TX5) (N := 21) hc i_X5_aboutNode_5 0 rfl rfl 9 (by decide) m_X5_aboutNode_66 rfl dX5_aboutNode_64 ?_
    exact V_iret hc hr (nvi_1, low_1, high_1, vi_1) hv rfl dX5_aboutNode_67
  have hv := hsd (by omega)
  refine V_tableOut (tgt := 68) hc dX5_aboutNode_20 hr9 (by omega) (by decide) ?_
  refine V_aload_n hc dX5_aboutNode_68 1 rfl ?_
  refine V_iload_n hc dX5_aboutNode_69 2 rfl ?_
  refine V_aload_n hc dX5_aboutNode_70 1 rfl ?_
  refine V_get (C := RX5) (T := TX5) (N := 21) hc i_X5_aboutNode_5 0 rfl rfl 11 (by decide) m_X5_aboutNode_69 rfl dX5_aboutNode_71 ?_
  refine V_aload_n hc dX5_aboutNode_74 1 rfl ?_
  refine V_get (C := RX5) (T := TX5) (N := 21) hc i_X5_aboutNode_5 0 rfl rfl 12 (by decide) m_X5_aboutNode_72 rfl dX5_aboutNode_75 ?_
  refine V_iload_n hc dX5_aboutNode_78 4 rfl ?_
  refine V_iconst hc dX5_aboutNode_79 ?_
  refine V_icmp_ne (tgt := 87) hc dX5_aboutNode_80 (by decide) ⟨hv.1, by decide, hv.2⟩ (fun hv => ?_) (fun hv => ?_)
  · refine V_iconst hc dX5_aboutNode_87 ?_
    refine V_callVI (As := [.int (iI x1), .int (iI low_1), .int (iI high_1), .int (iI 0)]) hc (wc := [oB hM 5 [.ref zA, .ref spA, .ref svA, .int (iI nsv), .ref soA, .ref ikA, .ref txA, .int (iI len), .int (iI thr), .int (iI nvi_1), .ref viA, .int (iI low_1), .int (iI high_1), .ref srA, .ref frA, .ref toA, .ref hoA, .ref keA, .int (iI nto), .int (iI spo), .int (iI mos)], aI t zA 646 z, aI t spA 646 sp, aI t svA 3876 sv, aI t soA 1292 so, aZ t ikA 2 ik, aI t txA 60 tx, aI t viA 120 vi_1, aI t srA 120 sr, aI t frA 122 fr, aI t toA 122 to, aI t hoA 31 ho, aI t keA 31 ke]) (wr := []) (pmI [0, 1, 2, 3, 4, 5, 6, 7, 8, 9, 10, 11, 12] 13 rfl (by decide +kernel) rfl) rfl rfl (met_X5_between l D t hM zA spA svA soA ikA txA viA srA frA toA hoA keA nsv len thr nvi_1 low_1 high_1 nto spo mos z sp sv so ik tx vi_1 sr fr to ho ke x1 low_1 high_1 0 _ hv) rfl gX5_aboutNode_X5_between rfl ⟨rfl, rfl⟩ ok_X5_between (by decide) (Nat.le_of_ble_eq_true rfl) dX5_aboutNode_88 (by decide) (fun r_2 _ hv => ?_)
    try dsimp only at hv
    refine V_perm (ws1 := [oB hM 5 [.ref zA, .ref spA, .ref svA, .int (iI nsv), .ref soA, .ref ikA, .ref txA, .int (iI len), .int (iI thr), .int (iI nvi_1), .ref viA, .int (iI low_1), .int (iI high_1), .ref srA, .ref frA, .ref toA, .ref hoA, .ref keA, .int (iI nto), .int (iI spo), .int (iI mos)], aI t zA 646 z, aI t spA 646 sp, aI t svA 3876 sv, aI t soA 1292 so, aZ t ikA 2 ik, aI t txA 60 tx, aI t viA 120 vi_1, aI t srA 120 sr, aI t frA 122 fr, aI t toA 122 to, aI t hoA 31 ho, aI t keA 31 ke]) (pmI [0, 1, 2, 3, 4, 5, 6, 7, 8, 9, 10, 11, 12] 13 rfl (by decide +kernel) rfl) ?_
    exact V_iret hc hr (nvi_1, low_1, high_1, vi_1) hv rfl dX5_aboutNode_91
  · refine V_iconst hc dX5_aboutNode_83 ?_
    refine V_goto (tgt := 88) hc dX5_aboutNode_84 (by decide) ?_
    refine V_callVI (As := [.int (iI x1), .int (iI low_1), .int (iI high_1), .int (iI 1)]) hc (wc := [oB hM 5 [.ref zA, .ref spA, .ref svA, .int (iI nsv), .ref soA, .ref ikA, .ref txA, .int (iI len), .int (iI thr), .int (iI nvi_1), .ref viA, .int (iI low_1), .int (iI high_1), .ref srA, .ref frA, .ref toA, .ref hoA, .ref keA, .int (iI nto), .int (iI spo), .int (iI mos)], aI t zA 646 z, aI t spA 646 sp, aI t svA 3876 sv, aI t soA 1292 so, aZ t ikA 2 ik, aI t txA 60 tx, aI t viA 120 vi_1, aI t srA 120 sr, aI t frA 122 fr, aI t toA 122 to, aI t hoA 31 ho, aI t keA 31 ke]) (wr := []) (pmI [0, 1, 2, 3, 4, 5, 6, 7, 8, 9, 10, 11, 12] 13 rfl (by decide +kernel) rfl) rfl rfl (met_X5_between l D t hM zA spA svA soA ikA txA viA srA frA toA hoA keA nsv len thr nvi_1 low_1 high_1 nto spo mos z sp sv so ik tx vi_1 sr fr to ho ke x1 low_1 high_1 1 _ hv) rfl gX5_aboutNode_X5_between rfl ⟨rfl, rfl⟩ ok_X5_between (by decide) (Nat.le_of_ble_eq_true rfl) dX5_aboutNode_88 (by decide) (fun r_3 _ hv => ?_)
    try dsimp only at hv
    refine V_perm (ws1 := [oB hM 5 [.ref zA, .ref spA, .ref svA, .int (iI nsv), .ref soA, .ref ikA, .ref txA, .int (iI len), .int (iI thr), .int (iI nvi_1), .ref viA, .int (iI low_1), .int (iI high_1), .ref srA, .ref frA, .ref toA, .ref hoA, .ref keA, .int (iI nto), .int (iI spo), .int (iI mos)], aI t zA 646 z, aI t spA 646 sp, aI t svA 3876 sv, aI t soA 1292 so, aZ t ikA 2 ik, aI t txA 60 tx, aI t viA 120 vi_1, aI t srA 120 sr, aI t frA 122 fr, aI t toA 122 to, aI t hoA 31 ho, aI t keA 31 ke]) (pmI [0, 1, 2, 3, 4, 5, 6, 7, 8, 9, 10, 11, 12] 13 rfl (by decide +kernel) rfl) ?_
    exact V_iret hc hr (nvi_1, low_1, high_1, vi_1) hv rfl dX5_aboutNode_91
abbrev W1_X5_node (t : Nat → ClassId) (hM : Nat) (zA : Nat) (spA : Nat) (svA : Nat) (soA : Nat) (ikA : Nat) (txA : Nat) (viA : Nat) (srA : Nat) (frA : Nat) (toA : Nat) (hoA : Nat) (keA : Nat) (nsv : Int) (len : Int) (nto : Int) (spo : Int) (mos : Int) (z : Nat → Int) (sp : Nat → Int) (sv : Nat → Int) (so : Nat → Int) (ik : Nat → Int) (tx : Nat → Int) (sr : Nat → Int) (fr : Nat → Int) (to : Nat → Int) (ho : Nat → Int) (ke : Nat → Int) (u : (Int) × (Int) × (Int) × (Int) × (Nat → Int)) : va_W := [oB hM 5 [.ref zA, .ref spA, .ref svA, .int (iI nsv), .ref soA, .ref ikA, .ref txA, .int (iI len), .int (iI u.1), .int (iI u.2.1), .ref viA, .int (iI u.2.2.1), .int (iI u.2.2.2.1), .ref srA, .ref frA, .ref toA, .ref hoA, .ref keA, .int (iI nto), .int (iI spo), .int (iI mos)], aI t zA 646 z, aI t spA 646 sp, aI t svA 3876 sv, aI t soA 1292 so, aZ t ikA 2 ik, aI t txA 60 tx, aI t viA 120 u.2.2.2.2, aI t srA 120 sr, aI t frA 122 fr, aI t toA 122 to, aI t hoA 31 ho, aI t keA 31 ke]
abbrev po_X5_node (Q : Int → (Int) → (Int) → (Int) → (Int) → (Nat → Int) → Prop) (r : Int) (u : (Int) × (Int) × (Int) × (Int) × (Nat → Int)) : Prop := Q r u.1 u.2.1 u.2.2.1 u.2.2.2.1 u.2.2.2.2
abbrev rm_X5_node : Room := { frames := 3, cells := 0, slots := 0, locals := 72 }
def wp_X5_node_46 (thr : Int) (z : Nat → Int) (x2 : Int) (x3 : Int) (x4 : Int) (Q : Int → (Int) → (Int) → (Int) → (Int) → (Nat → Int) → Prop) (K_46 : (Int) → (Int) → (Int) → (Nat → Int) → Int → Int → Prop) (nvi : Int) (low : Int) (high : Int) (vi : Nat → Int) (x5 : Int) (x6 : Int) : Prop := (0 ≤ x4 ∧ x4 < 646) ∧ inR x6 ∧ inR (z x4.toNat) ∧ (x6 ≥ z x4.toNat → inR x5 ∧ (x5 ≠ (-1) → wp_X5_aboutNode nvi low high z vi x4 x5 x3 (fun r_3 nvi_3 low_3 high_3 vi_3 => Q r_3 thr nvi_3 low_3 high_3 vi_3)) ∧ (¬ (x5 ≠ (-1)) → Q (-1) thr nvi low high vi)) ∧ (¬ (x6 ≥ z x4.toNat) → (0 ≤ (x4 + 1) + x6 ∧ (x4 + 1) + x6 < 646) ∧ wp_X5_numberOf nvi low high z vi x4 (z ((x4 + 1) + x6).toNat) (fun r_4 nvi_4 low_4 high_4 vi_4 => inR r_4 ∧ inR x2 ∧ (r_4 ≠ x2 → K_46 nvi_4 low_4 high_4 vi_4 x5 (x6 + 1)) ∧ (¬ (r_4 ≠ x2) → K_46 nvi_4 low_4 high_4 vi_4 x6 (x6 + 1))))
def wp_X5_node_19 (thr : Int) (nvi : Int) (low : Int) (high : Int) (z : Nat → Int) (vi : Nat → Int) (x1 : Int) (x2 : Int) (x3 : Int) (s0 : Int) (Q : Int → (Int) → (Int) → (Int) → (Int) → (Nat → Int) → Prop) : Prop := wp_X5_refused thr s0 (fun r_2 thr_2 => inR r_2 ∧ (r_2 = 0 → inR x1 ∧ (x1 = 0 → (∃ n, lq6 (wp_X5_node_46 thr_2 z x2 x3 0 Q) n nvi low high vi (-1) 0)) ∧ (¬ (x1 = 0) → (∃ n, lq6 (wp_X5_node_46 thr_2 z x2 x3 241 Q) n nvi low high vi (-1) 0))) ∧ (¬ (r_2 = 0) → Q 0 thr_2 nvi low high vi))
def wp_X5_node_14 (thr : Int) (nvi : Int) (low : Int) (high : Int) (z : Nat → Int) (vi : Nat → Int) (x1 : Int) (x2 : Int) (x3 : Int) (Q : Int → (Int) → (Int) → (Int) → (Int) → (Nat → Int) → Prop) : Prop := wp_X5_node_19 thr nvi low high z vi x1 x2 x3 1 Q
def wp_X5_node (thr : Int) (nvi : Int) (low : Int) (high : Int) (z : Nat → Int) (vi : Nat → Int) (x1 : Int) (x2 : Int) (x3 : Int) (Q : Int → (Int) → (Int) → (Int) → (Int) → (Nat → Int) → Prop) : Prop := inR x2 ∧ (x2 < 0 → wp_X5_node_14 thr nvi low high z vi x1 x2 x3 Q) ∧ (¬ (x2 < 0) → wp_X5_in x3 0 4 (fun r_1 => inR r_1 ∧ (r_1 ≠ 0 → wp_X5_node_19 thr nvi low high z vi x1 x2 x3 0 Q) ∧ (¬ (r_1 ≠ 0) → wp_X5_node_14 thr nvi low high z vi x1 x2 x3 Q)))
theorem m_X5_node_7 : Cond.fieldLink RX5 7 "BackgroundRebuildModel" "z" "[I" ∈ wsX5_node := by decide +kernel
theorem i_X5_node_5 : ∀ w ∈ u_ws RX5 TX5 21, w ∈ wsX5_node := by decide +kernel
theorem ok_X5_node : yX5_node.cls = RX5 ∧ yX5_node.cls ≠ "java/lang/invoke/MethodHandle" ∧ yX5_node.cls ≠ "java/lang/invoke/VarHandle" ∧ (parseMethodDescriptor yX5_node.desc).map (fun d => d.parameters.length) = some 3 := by decide +kernel
set_option maxHeartbeats 4000000 in
set_option maxRecDepth 100000 in
theorem met_X5_node (l : Launch) (D : va_G) (t : Nat → ClassId) (hM : Nat) (zA : Nat) (spA : Nat) (svA : Nat) (soA : Nat) (ikA : Nat) (txA : Nat) (viA : Nat) (srA : Nat) (frA : Nat) (toA : Nat) (hoA : Nat) (keA : Nat) (nsv : Int) (len : Int) (thr : Int) (nvi : Int) (low : Int) (high : Int) (nto : Int) (spo : Int) (mos : Int) (z : Nat → Int) (sp : Nat → Int) (sv : Nat → Int) (so : Nat → Int) (ik : Nat → Int) (tx : Nat → Int) (vi : Nat → Int) (sr : Nat → Int) (fr : Nat → Int) (to : Nat → Int) (ho : Nat → Int) (ke : Nat → Int) (x1 : Int) (x2 : Int) (x3 : Int) (Q : Int → (Int) → (Int) → (Int) → (Int) → (Nat → Int) → Prop) (hv : wp_X5_node thr nvi low high z vi x1 x2 x3 Q) : MI l D t yX5_node wsX5_node rm_X5_node [.ref hM, .int (iI x1), .int (iI x2), .int (iI x3)] [oB hM 5 [.ref zA, .ref spA, .ref svA, .int (iI nsv), .ref soA, .ref ikA, .ref txA, .int (iI len), .int (iI thr), .int (iI nvi), .ref viA, .int (iI low), .int (iI high), .ref srA, .ref frA, .ref toA, .ref hoA, .ref keA, .int (iI nto), .int (iI spo), .int (iI mos)], aI t zA 646 z, aI t spA 646 sp, aI t svA 3876 sv, aI t soA 1292 so, aZ t ikA 2 ik, aI t txA 60 tx, aI t viA 120 vi, aI t srA 120 sr, aI t frA 122 fr, aI t toA 122 to, aI t hoA 31 ho, aI t keA 31 ke] (W1_X5_node t hM zA spA svA soA ikA txA viA srA frA toA hoA keA nsv len nto spo mos z sp sv so ik tx sr fr to ho ke) (po_X5_node Q) 0 0 := by
  refine M_ofi (cc := cX5_node) (nL := 7) (by decide) rfl (Nat.le_of_ble_eq_true rfl) ?_
  intro p e s m args below meth c A hc hr
  have L_46 : ∀ (thr : Int) (z : Nat → Int) (x2 : Int) (x3 : Int) (x4 : Int) (n9 : Nat) (nvi : Int) (low : Int) (high : Int) (vi : Nat → Int) (x5 : Int) (x6 : Int), lq6 (wp_X5_node_46 thr z x2 x3 x4 Q) n9 nvi low high vi x5 x6 → V p l e rm_X5_node s m args below meth c D A 7 0 0 (MQ below (QI D A (W1_X5_node t hM zA spA svA soA ikA txA viA srA frA toA hoA keA nsv len nto spo mos z sp sv so ik tx sr fr to ho ke) (po_X5_node Q)) args s 0 0 A) 46 [(0, .ref hM), (2, .int (iI x2)), (3, .int (iI x3)), (4, .int (iI x4)), (5, .int (iI x5)), (6, .int (iI x6))] [] [oB hM 5 [.ref zA, .ref spA, .ref svA, .int (iI nsv), .ref soA, .ref ikA, .ref txA, .int (iI len), .int (iI thr), .int (iI nvi), .ref viA, .int (iI low), .int (iI high), .ref srA, .ref frA, .ref toA, .ref hoA, .ref keA, .int (iI nto), .int (iI spo), .int (iI mos)], aI t zA 646 z, aI t spA 646 sp, aI t svA 3876 sv, aI t soA 1292 so, aZ t ikA 2 ik, aI t txA 60 tx, aI t viA 120 vi, aI t srA 120 sr, aI t frA 122 fr, aI t toA 122 to, aI t hoA 31 ho, aI t keA 31 ke] := by
    intro thr z x2 x3 x4 n9
    induction n9 with
    | zero =>
      intro nvi low high vi x5 x6 hv
      exact hv.elim
    | succ n9 ih =>
      intro nvi low high vi x5 x6 hv
      have hv : wp_X5_node_46 thr z x2 x3 x4 Q (lq6 (wp_X5_node_46 thr z x2 x3 x4 Q) n9) nvi low high vi x5 x6 := hv
      generalize lq6 (wp_X5_node_46 thr z x2 x3 x4 Q) n9 = K_46 at hv ih
      have hK_46 := ih
      unfold wp_X5_node_46 at hv
      refine V_iload hc dX5_node_46 5 rfl ?_
      refine V_aload_n hc dX5_node_48 0 rfl ?_
      refine V_get (C := RX5) (T := TX5) (N := 21) hc i_X5_node_5 0 rfl rfl 0 (by decide) m_X5_node_7 rfl dX5_node_49 ?_
      refine V_iload hc dX5_node_52 3 rfl ?_
      refine V_iald hc 1 rfl (by decide) hv dX5_node_54 (fun hv => ?_)
      refine V_icmp_ge (tgt := 95) hc dX5_node_55 (by decide) hv (fun hv => ?_) (fun hv => ?_)
      · refine V_iload hc dX5_node_95 4 rfl ?_
        refine V_iconst hc dX5_node_97 ?_
        refine V_icmp_ne (tgt := 105) hc dX5_node_98 (by decide) ⟨hv.1, by decide, hv.2⟩ (fun hv => ?_) (fun hv => ?_)
        · refine V_aload_n hc dX5_node_105 0 rfl ?_
          refine V_iload hc dX5_node_106 3 rfl ?_
          refine V_iload hc dX5_node_108 4 rfl ?_
          refine V_iload_n hc dX5_node_110 2 rfl ?_
          refine V_callVI (As := [.int (iI x4), .int (iI x5), .int (iI x3)]) hc (wc := [oB hM 5 [.ref zA, .ref spA, .ref svA, .int (iI nsv), .ref soA, .ref ikA, .ref txA, .int (iI len), .int (iI thr), .int (iI nvi), .ref viA, .int (iI low), .int (iI high), .ref srA, .ref frA, .ref toA, .ref hoA, .ref keA, .int (iI nto), .int (iI spo), .int (iI mos)], aI t zA 646 z, aI t spA 646 sp, aI t svA 3876 sv, aI t soA 1292 so, aZ t ikA 2 ik, aI t txA 60 tx, aI t viA 120 vi, aI t srA 120 sr, aI t frA 122 fr, aI t toA 122 to, aI t hoA 31 ho, aI t keA 31 ke]) (wr := []) (pmI [0, 1, 2, 3, 4, 5, 6, 7, 8, 9, 10, 11, 12] 13 rfl (by decide +kernel) rfl) rfl rfl (met_X5_aboutNode l D t hM zA spA svA soA ikA txA viA srA frA toA hoA keA nsv len thr nvi low high nto spo mos z sp sv so ik tx vi sr fr to ho ke x4 x5 x3 _ hv) rfl gX5_node_X5_aboutNode rfl ⟨rfl, rfl⟩ ok_X5_aboutNode (by decide) (Nat.le_of_ble_eq_true rfl) dX5_node_111 (by decide) (fun r_3 u9 hv => ?_)
          obtain ⟨nvi_3, low_3, high_3, vi_3⟩ := u9
          try dsimp only at hv
          refine V_perm (ws1 := [oB hM 5 [.ref zA, .ref spA, .ref svA, .int (iI nsv), .ref soA, .ref ikA, .ref txA, .int (iI len), .int (iI thr), .int (iI nvi_3), .ref viA, .int (iI low_3), .int (iI high_3), .ref srA, .ref frA, .ref toA, .ref hoA, .ref keA, .int (iI nto), .int (iI spo), .int (iI mos)], aI t zA 646 z, aI t spA 646 sp, aI t svA 3876 sv, aI t soA 1292 so, aZ t ikA 2 ik, aI t txA 60 tx, aI t viA 120 vi_3, aI t srA 120 sr, aI t frA 122 fr, aI t toA 122 to, aI t hoA 31 ho, aI t keA 31 ke]) (pmI [0, 1, 2, 3, 4, 5, 6, 7, 8, 9, 10, 11, 12] 13 rfl (by decide +kernel) rfl) ?_
          exact V_iret hc hr (thr, nvi_3, low_3, high_3, vi_3) hv rfl dX5_node_114
        · refine V_iconst hc dX5_node_101 ?_
          refine V_goto (tgt := 114) hc dX5_node_102 (by decide) ?_
          exact V_iret hc hr (thr, nvi, low, high, vi) hv rfl dX5_node_114
      · refine V_aload_n hc dX5_node_58 0 rfl ?_
        refine V_iload hc dX5_node_59 3 rfl ?_
        refine V_aload_n hc dX5_node_61 0 rfl ?_
        refine V_get (C := RX5) (T := TX5) (N := 21) hc i_X5_node_5 0 rfl rfl 0 (by decide) m_X5_node_7 rfl dX5_node_62 ?_
        refine V_iload hc dX5_node_65 3 rfl ?_
        refine V_iconst hc dX5_node_67 ?_
        refine V_iadd hc dX5_node_68 ?_
        refine V_iload hc dX5_node_69 5 rfl ?_
        refine V_iadd hc dX5_node_71 ?_
        refine V_iald hc 1 rfl (by decide) hv dX5_node_72 (fun hv => ?_)
        refine V_callVI (As := [.int (iI x4), .int (iI (z ((x4 + 1) + x6).toNat))]) hc (wc := [oB hM 5 [.ref zA, .ref spA, .ref svA, .int (iI nsv), .ref soA, .ref ikA, .ref txA, .int (iI len), .int (iI thr), .int (iI nvi), .ref viA, .int (iI low), .int (iI high), .ref srA, .ref frA, .ref toA, .ref hoA, .ref keA, .int (iI nto), .int (iI spo), .int (iI mos)], aI t zA 646 z, aI t spA 646 sp, aI t svA 3876 sv, aI t soA 1292 so, aZ t ikA 2 ik, aI t txA 60 tx, aI t viA 120 vi, aI t srA 120 sr, aI t frA 122 fr, aI t toA 122 to, aI t hoA 31 ho, aI t keA 31 ke]) (wr := []) (pmI [0, 1, 2, 3, 4, 5, 6, 7, 8, 9, 10, 11, 12] 13 rfl (by decide +kernel) rfl) rfl rfl (met_X5_numberOf l D t hM zA spA svA soA ikA txA viA srA frA toA hoA keA nsv len thr nvi low high nto spo mos z sp sv so ik tx vi sr fr to ho ke x4 (z ((x4 + 1) + x6).toNat) _ hv) rfl gX5_node_X5_numberOf rfl ⟨rfl, rfl⟩ ok_X5_numberOf (by decide) (Nat.le_of_ble_eq_true rfl) dX5_node_73 (by decide) (fun r_4 u9 hv => ?_)
        obtain ⟨nvi_4, low_4, high_4, vi_4⟩ := u9
        try dsimp only at hv
        refine V_perm (ws1 := [oB hM 5 [.ref zA, .ref spA, .ref svA, .int (iI nsv), .ref soA, .ref ikA, .ref txA, .int (iI len), .int (iI thr), .int (iI nvi_4), .ref viA, .int (iI low_4), .int (iI high_4), .ref srA, .ref frA, .ref toA, .ref hoA, .ref keA, .int (iI nto), .int (iI spo), .int (iI mos)], aI t zA 646 z, aI t spA 646 sp, aI t svA 3876 sv, aI t soA 1292 so, aZ t ikA 2 ik, aI t txA 60 tx, aI t viA 120 vi_4, aI t srA 120 sr, aI t frA 122 fr, aI t toA 122 to, aI t hoA 31 ho, aI t keA 31 ke]) (pmI [0, 1, 2, 3, 4, 5, 6, 7, 8, 9, 10, 11, 12] 13 rfl (by decide +kernel) rfl) ?_
        refine V_iload_n hc dX5_node_76 1 rfl ?_
        refine V_icmp_ne (tgt := 85) hc dX5_node_77 (by decide) hv (fun hv => ?_) (fun hv => ?_)
        · refine V_iload hc dX5_node_85 4 rfl ?_
          refine V_istore hc dX5_node_87 [(5, .int (iI x5)), (0, .ref hM), (2, .int (iI x2)), (3, .int (iI x3)), (4, .int (iI x4)), (6, .int (iI x6))] (by decide) rfl ?_
          refine V_iinc hc dX5_node_89 5 rfl [(6, .int (iI (x6 + 1))), (5, .int (iI x5)), (0, .ref hM), (2, .int (iI x2)), (3, .int (iI x3)), (4, .int (iI x4))] (by decide) rfl ?_
          refine V_goto (tgt := 46) hc dX5_node_92 (by decide) ?_
          refine V_lv [2, 3, 4, 5, 1, 0] [(0, .ref hM), (2, .int (iI x2)), (3, .int (iI x3)), (4, .int (iI x4)), (5, .int (iI x5)), (6, .int (iI (x6 + 1)))] rfl ?_
          exact hK_46 nvi_4 low_4 high_4 vi_4 x5 (x6 + 1) hv
        · refine V_iload hc dX5_node_80 5 rfl ?_
          refine V_goto (tgt := 87) hc dX5_node_82 (by decide) ?_
          refine V_istore hc dX5_node_87 [(5, .int (iI x6)), (0, .ref hM), (2, .int (iI x2)), (3, .int (iI x3)), (4, .int (iI x4)), (6, .int (iI x6))] (by decide) rfl ?_
          refine V_iinc hc dX5_node_89 5 rfl [(6, .int (iI (x6 + 1))), (5, .int (iI x6)), (0, .ref hM), (2, .int (iI x2)), (3, .int (iI x3)), (4, .int (iI x4))] (by decide) rfl ?_
          refine V_goto (tgt := 46) hc dX5_node_92 (by decide) ?_
          refine V_lv [2, 3, 4, 5, 1, 0] [(0, .ref hM), (2, .int (iI x2)), (3, .int (iI x3)), (4, .int (iI x4)), (5, .int (iI x6)), (6, .int (iI (x6 + 1)))] rfl ?_
          exact hK_46 nvi_4 low_4 high_4 vi_4 x6 (x6 + 1) hv
  have C_19 : ∀ (thr : Int) (nvi : Int) (low : Int) (high : Int) (z : Nat → Int) (vi : Nat → Int) (x1 : Int) (x2 : Int) (x3 : Int) (s0 : Int), wp_X5_node_19 thr nvi low high z vi x1 x2 x3 s0 Q → V p l e rm_X5_node s m args below meth c D A 7 0 0 (MQ below (QI D A (W1_X5_node t hM zA spA svA soA ikA txA viA srA frA toA hoA keA nsv len nto spo mos z sp sv so ik tx sr fr to ho ke) (po_X5_node Q)) args s 0 0 A) 19 [(0, .ref hM), (1, .int (iI x1)), (2, .int (iI x2)), (3, .int (iI x3))] [.int (iI s0), .ref hM] [oB hM 5 [.ref zA, .ref spA, .ref svA, .int (iI nsv), .ref soA, .ref ikA, .ref txA, .int (iI len), .int (iI thr), .int (iI nvi), .ref viA, .int (iI low), .int (iI high), .ref srA, .ref frA, .ref toA, .ref hoA, .ref keA, .int (iI nto), .int (iI spo), .int (iI mos)], aI t zA 646 z, aI t spA 646 sp, aI t svA 3876 sv, aI t soA 1292 so, aZ t ikA 2 ik, aI t txA 60 tx, aI t viA 120 vi, aI t srA 120 sr, aI t frA 122 fr, aI t toA 122 to, aI t hoA 31 ho, aI t keA 31 ke] := by
    intro thr nvi low high z vi x1 x2 x3 s0 hv
    unfold wp_X5_node_19 at hv
    refine V_callVI (As := [.int (iI s0)]) hc (wc := [oB hM 5 [.ref zA, .ref spA, .ref svA, .int (iI nsv), .ref soA, .ref ikA, .ref txA, .int (iI len), .int (iI thr), .int (iI nvi), .ref viA, .int (iI low), .int (iI high), .ref srA, .ref frA, .ref toA, .ref hoA, .ref keA, .int (iI nto), .int (iI spo), .int (iI mos)], aI t zA 646 z, aI t spA 646 sp, aI t svA 3876 sv, aI t soA 1292 so, aZ t ikA 2 ik, aI t txA 60 tx, aI t viA 120 vi, aI t srA 120 sr, aI t frA 122 fr, aI t toA 122 to, aI t hoA 31 ho, aI t keA 31 ke]) (wr := []) (pmI [0, 1, 2, 3, 4, 5, 6, 7, 8, 9, 10, 11, 12] 13 rfl (by decide +kernel) rfl) rfl rfl (met_X5_refused l D t hM zA spA svA soA ikA txA viA srA frA toA hoA keA nsv len thr nvi low high nto spo mos z sp sv so ik tx vi sr fr to ho ke s0 _ hv) rfl gX5_node_X5_refused rfl ⟨rfl, rfl⟩ ok_X5_refused (by decide) (Nat.le_of_ble_eq_true rfl) dX5_node_19 (by decide) (fun r_2 u9 hv => ?_)
    obtain ⟨thr_2, h9⟩ : ∃ z, z = u9 := ⟨_, rfl⟩
    subst h9
    try dsimp only at hv
    refine V_perm (ws1 := [oB hM 5 [.ref zA, .ref spA, .ref svA, .int (iI nsv), .ref soA, .ref ikA, .ref txA, .int (iI len), .int (iI thr_2), .int (iI nvi), .ref viA, .int (iI low), .int (iI high), .ref srA, .ref frA, .ref toA, .ref hoA, .ref keA, .int (iI nto), .int (iI spo), .int (iI mos)], aI t zA 646 z, aI t spA 646 sp, aI t svA 3876 sv, aI t soA 1292 so, aZ t ikA 2 ik, aI t txA 60 tx, aI t viA 120 vi, aI t srA 120 sr, aI t frA 122 fr, aI t toA 122 to, aI t hoA 31 ho, aI t keA 31 ke]) (pmI [0, 1, 2, 3, 4, 5, 6, 7, 8, 9, 10, 11, 12] 13 rfl (by decide +kernel) rfl) ?_
    refine V_if_eq (tgt := 27) hc dX5_node_22 (by decide) hv (fun hv => ?_) (fun hv => ?_)
    · refine V_iload_n hc dX5_node_27 1 rfl ?_
      refine V_if_eq (tgt := 37) hc dX5_node_28 (by decide) hv (fun hv => ?_) (fun hv => ?_)
      · refine V_iconst hc dX5_node_37 ?_
        refine V_istore hc dX5_node_38 [(4, .int (iI 0)), (0, .ref hM), (1, .int (iI x1)), (2, .int (iI x2)), (3, .int (iI x3))] (by decide) rfl ?_
        refine V_iconst hc dX5_node_40 ?_
        refine V_istore hc dX5_node_41 [(5, .int (iI (-1))), (4, .int (iI 0)), (0, .ref hM), (1, .int (iI x1)), (2, .int (iI x2)), (3, .int (iI x3))] (by decide) rfl ?_
        refine V_iconst hc dX5_node_43 ?_
        refine V_istore hc dX5_node_44 [(6, .int (iI 0)), (5, .int (iI (-1))), (4, .int (iI 0)), (0, .ref hM), (1, .int (iI x1)), (2, .int (iI x2)), (3, .int (iI x3))] (by decide) rfl ?_
        refine V_lv [3, 5, 6, 2, 1, 0] [(0, .ref hM), (2, .int (iI x2)), (3, .int (iI x3)), (4, .int (iI 0)), (5, .int (iI (-1))), (6, .int (iI 0))] rfl ?_
        obtain ⟨n9, hv⟩ := hv
        exact L_46 thr_2 z x2 x3 0 n9 nvi low high vi (-1) 0 hv
      · refine V_sipush hc dX5_node_31 (by decide) ?_
        refine V_goto (tgt := 38) hc dX5_node_34 (by decide) ?_
        refine V_istore hc dX5_node_38 [(4, .int (iI 241)), (0, .ref hM), (1, .int (iI x1)), (2, .int (iI x2)), (3, .int (iI x3))] (by decide) rfl ?_
        refine V_iconst hc dX5_node_40 ?_
        refine V_istore hc dX5_node_41 [(5, .int (iI (-1))), (4, .int (iI 241)), (0, .ref hM), (1, .int (iI x1)), (2, .int (iI x2)), (3, .int (iI x3))] (by decide) rfl ?_
        refine V_iconst hc dX5_node_43 ?_
        refine V_istore hc dX5_node_44 [(6, .int (iI 0)), (5, .int (iI (-1))), (4, .int (iI 241)), (0, .ref hM), (1, .int (iI x1)), (2, .int (iI x2)), (3, .int (iI x3))] (by decide) rfl ?_
        refine V_lv [3, 5, 6, 2, 1, 0] [(0, .ref hM), (2, .int (iI x2)), (3, .int (iI x3)), (4, .int (iI 241)), (5, .int (iI (-1))), (6, .int (iI 0))] rfl ?_
        obtain ⟨n9, hv⟩ := hv
        exact L_46 thr_2 z x2 x3 241 n9 nvi low high vi (-1) 0 hv
    · refine V_iconst hc dX5_node_25 ?_
      exact V_iret hc hr (thr_2, nvi, low, high, vi) hv rfl dX5_node_26
  have C_14 : ∀ (thr : Int) (nvi : Int) (low : Int) (high : Int) (z : Nat → Int) (vi : Nat → Int) (x1 : Int) (x2 : Int) (x3 : Int), wp_X5_node_14 thr nvi low high z vi x1 x2 x3 Q → V p l e rm_X5_node s m args below meth c D A 7 0 0 (MQ below (QI D A (W1_X5_node t hM zA spA svA soA ikA txA viA srA frA toA hoA keA nsv len nto spo mos z sp sv so ik tx sr fr to ho ke) (po_X5_node Q)) args s 0 0 A) 14 [(0, .ref hM), (1, .int (iI x1)), (2, .int (iI x2)), (3, .int (iI x3))] [.ref hM] [oB hM 5 [.ref zA, .ref spA, .ref svA, .int (iI nsv), .ref soA, .ref ikA, .ref txA, .int (iI len), .int (iI thr), .int (iI nvi), .ref viA, .int (iI low), .int (iI high), .ref srA, .ref frA, .ref toA, .ref hoA, .ref keA, .int (iI nto), .int (iI spo), .int (iI mos)], aI t zA 646 z, aI t spA 646 sp, aI t svA 3876 sv, aI t soA 1292 so, aZ t ikA 2 ik, aI t txA 60 tx, aI t viA 120 vi, aI t srA 120 sr, aI t frA 122 fr, aI t toA 122 to, aI t hoA 31 ho, aI t keA 31 ke] := by
    intro thr nvi low high z vi x1 x2 x3 hv
    unfold wp_X5_node_14 at hv
    refine V_iconst hc dX5_node_14 ?_
    refine V_goto (tgt := 19) hc dX5_node_15 (by decide) ?_
    exact C_19 thr nvi low high z vi x1 x2 x3 1 hv
  refine V_lv [0, 1, 2, 3] [(0, .ref hM), (1, .int (iI x1)), (2, .int (iI x2)), (3, .int (iI x3))] rfl ?_
  unfold wp_X5_node at hv
  refine V_aload_n hc dX5_node_0 0 rfl ?_
  refine V_iload_n hc dX5_node_1 2 rfl ?_
  refine V_if_lt (tgt := 14) hc dX5_node_2 (by decide) hv (fun hv => ?_) (fun hv => ?_)
  · exact C_14 thr nvi low high z vi x1 x2 x3 hv
  · refine V_iload_n hc dX5_node_5 3 rfl ?_
    refine V_iconst hc dX5_node_6 ?_
    refine V_iconst hc dX5_node_7 ?_
    refine V_callSI (As := [.int (iI x3), .int (iI 0), .int (iI 4)]) hc (wc := []) (wr := [oB hM 5 [.ref zA, .ref spA, .ref svA, .int (iI nsv), .ref soA, .ref ikA, .ref txA, .int (iI len), .int (iI thr), .int (iI nvi), .ref viA, .int (iI low), .int (iI high), .ref srA, .ref frA, .ref toA, .ref hoA, .ref keA, .int (iI nto), .int (iI spo), .int (iI mos)], aI t zA 646 z, aI t spA 646 sp, aI t svA 3876 sv, aI t soA 1292 so, aZ t ikA 2 ik, aI t txA 60 tx, aI t viA 120 vi, aI t srA 120 sr, aI t frA 122 fr, aI t toA 122 to, aI t hoA 31 ho, aI t keA 31 ke]) (pmI [0, 1, 2, 3, 4, 5, 6, 7, 8, 9, 10, 11, 12] 13 rfl (by decide +kernel) rfl) (met_X5_in l D t x3 0 4 _ hv) rfl gX5_node_X5_in rfl ⟨rfl, rfl⟩ ok_X5_in (by decide) (Nat.le_of_ble_eq_true rfl) dX5_node_8 (by decide) (fun r_1 _ hv => ?_)
    try dsimp only at hv
    refine V_perm (ws1 := [oB hM 5 [.ref zA, .ref spA, .ref svA, .int (iI nsv), .ref soA, .ref ikA, .ref txA, .int (iI len), .int (iI thr), .int (iI nvi), .ref viA, .int (iI low), .int (iI high), .ref srA, .ref frA, .ref toA, .ref hoA, .ref keA, .int (iI nto), .int (iI spo), .int (iI mos)], aI t zA 646 z, aI t spA 646 sp, aI t svA 3876 sv, aI t soA 1292 so, aZ t ikA 2 ik, aI t txA 60 tx, aI t viA 120 vi, aI t srA 120 sr, aI t frA 122 fr, aI t toA 122 to, aI t hoA 31 ho, aI t keA 31 ke]) (pmI [0, 1, 2, 3, 4, 5, 6, 7, 8, 9, 10, 11, 12] 13 rfl (by decide +kernel) rfl) ?_
    refine V_if_ne (tgt := 18) hc dX5_node_11 (by decide) hv (fun hv => ?_) (fun hv => ?_)
    · refine V_iconst hc dX5_node_18 ?_
      exact C_19 thr nvi low high z vi x1 x2 x3 0 hv
    · exact C_14 thr nvi low high z vi x1 x2 x3 hv
abbrev W1_X5_path (t : Nat → ClassId) (hM : Nat) (zA : Nat) (spA : Nat) (svA : Nat) (soA : Nat) (ikA : Nat) (txA : Nat) (viA : Nat) (srA : Nat) (frA : Nat) (toA : Nat) (hoA : Nat) (keA : Nat) (nsv : Int) (len : Int) (nto : Int) (spo : Int) (mos : Int) (z : Nat → Int) (sp : Nat → Int) (sv : Nat → Int) (so : Nat → Int) (ik : Nat → Int) (tx : Nat → Int) (sr : Nat → Int) (fr : Nat → Int) (to : Nat → Int) (ho : Nat → Int) (ke : Nat → Int) (u : (Int) × (Int) × (Int) × (Int) × (Nat → Int)) : va_W := [oB hM 5 [.ref zA, .ref spA, .ref svA, .int (iI nsv), .ref soA, .ref ikA, .ref txA, .int (iI len), .int (iI u.1), .int (iI u.2.1), .ref viA, .int (iI u.2.2.1), .int (iI u.2.2.2.1), .ref srA, .ref frA, .ref toA, .ref hoA, .ref keA, .int (iI nto), .int (iI spo), .int (iI mos)], aI t zA 646 z, aI t spA 646 sp, aI t svA 3876 sv, aI t soA 1292 so, aZ t ikA 2 ik, aI t txA 60 tx, aI t viA 120 u.2.2.2.2, aI t srA 120 sr, aI t frA 122 fr, aI t toA 122 to, aI t hoA 31 ho, aI t keA 31 ke]
abbrev po_X5_path (Q : Int → (Int) → (Int) → (Int) → (Int) → (Nat → Int) → Prop) (r : Int) (u : (Int) × (Int) × (Int) × (Int) × (Nat → Int)) : Prop := Q r u.1 u.2.1 u.2.2.1 u.2.2.2.1 u.2.2.2.2
abbrev rm_X5_path : Room := { frames := 2, cells := 0, slots := 0, locals := 42 }
def wp_X5_path_17 (thr : Int) (nvi : Int) (low : Int) (high : Int) (z : Nat → Int) (vi : Nat → Int) (x1 : Int) (x2 : Int) (s0 : Int) (Q : Int → (Int) → (Int) → (Int) → (Int) → (Nat → Int) → Prop) : Prop := wp_X5_refused thr s0 (fun r_2 thr_2 => inR r_2 ∧ (r_2 = 0 → wp_X5_seek nvi low high z vi 0 x1 (fun nvi_3 low_3 high_3 vi_3 => inR x2 ∧ inR nvi_3 ∧ (x2 ≥ nvi_3 → Q (-1) thr_2 nvi_3 low_3 high_3 vi_3) ∧ (¬ (x2 ≥ nvi_3) → (0 ≤ x2 ∧ x2 < 120) ∧ Q (vi_3 x2.toNat) thr_2 nvi_3 low_3 high_3 vi_3))) ∧ (¬ (r_2 = 0) → Q 0 thr_2 nvi low high vi))
def wp_X5_path_12 (thr : Int) (nvi : Int) (low : Int) (high : Int) (z : Nat → Int) (vi : Nat → Int) (x1 : Int) (x2 : Int) (Q : Int → (Int) → (Int) → (Int) → (Int) → (Nat → Int) → Prop) : Prop := wp_X5_path_17 thr nvi low high z vi x1 x2 1 Q
def wp_X5_path (thr : Int) (nvi : Int) (low : Int) (high : Int) (z : Nat → Int) (vi : Nat → Int) (x1 : Int) (x2 : Int) (Q : Int → (Int) → (Int) → (Int) → (Int) → (Nat → Int) → Prop) : Prop := wp_X5_isKey x1 (fun r_1 => inR r_1 ∧ (r_1 = 0 → wp_X5_path_12 thr nvi low high z vi x1 x2 Q) ∧ (¬ (r_1 = 0) → inR x2 ∧ (x2 ≥ 0 → wp_X5_path_17 thr nvi low high z vi x1 x2 0 Q) ∧ (¬ (x2 ≥ 0) → wp_X5_path_12 thr nvi low high z vi x1 x2 Q)))
theorem m_X5_path_66 : Cond.fieldLink RX5 66 "BackgroundRebuildModel" "visitedMany" "I" ∈ wsX5_path := by decide +kernel
theorem m_X5_path_29 : Cond.fieldLink RX5 29 "BackgroundRebuildModel" "visited" "[I" ∈ wsX5_path := by decide +kernel
theorem i_X5_path_5 : ∀ w ∈ u_ws RX5 TX5 21, w ∈ wsX5_path := by decide +kernel
theorem ok_X5_path : yX5_path.cls = RX5 ∧ yX5_path.cls ≠ "java/lang/invoke/MethodHandle" ∧ yX5_path.cls ≠ "java/lang/invoke/VarHandle" ∧ (parseMethodDescriptor yX5_path.desc).map (fun d => d.parameters.length) = some 2 := by decide +kernel
set_option maxHeartbeats 4000000 in
set_option maxRecDepth 100000 in
theorem met_X5_path (l : Launch) (D : va_G) (t : Nat → ClassId) (hM : Nat) (zA : Nat) (spA : Nat) (svA : Nat) (soA : Nat) (ikA : Nat) (txA : Nat) (viA : Nat) (srA : Nat) (frA : Nat) (toA : Nat) (hoA : Nat) (keA : Nat) (nsv : Int) (len : Int) (thr : Int) (nvi : Int) (low : Int) (high : Int) (nto : Int) (spo : Int) (mos : Int) (z : Nat → Int) (sp : Nat → Int) (sv : Nat → Int) (so : Nat → Int) (ik : Nat → Int) (tx : Nat → Int) (vi : Nat → Int) (sr : Nat → Int) (fr : Nat → Int) (to : Nat → Int) (ho : Nat → Int) (ke : Nat → Int) (x1 : Int) (x2 : Int) (Q : Int → (Int) → (Int) → (Int) → (Int) → (Nat → Int) → Prop) (hv : wp_X5_path thr nvi low high z vi x1 x2 Q) : MI l D t yX5_path wsX5_path rm_X5_path [.ref hM, .int (iI x1), .int (iI x2)] [oB hM 5 [.ref zA, .ref spA, .ref svA, .int (iI nsv), .ref soA, .ref ikA, .ref txA, .int (iI len), .int (iI thr), .int (iI nvi), .ref viA, .int (iI low), .int (iI high), .ref srA, .ref frA, .ref toA, .ref hoA, .ref keA, .int (iI nto), .int (iI spo), .int (iI mos)], aI t zA 646 z, aI t spA 646 sp, aI t svA 3876 sv, aI t soA 1292 so, aZ t ikA 2 ik, aI t txA 60 tx, aI t viA 120 vi, aI t srA 120 sr, aI t frA 122 fr, aI t toA 122 to, aI t hoA 31 ho, aI t keA 31 ke] (W1_X5_path t hM zA spA svA soA ikA txA viA srA frA toA hoA keA nsv len nto spo mos z sp sv so ik tx sr fr to ho ke) (po_X5_path Q) 0 0 := by
  refine M_ofi (cc := cX5_path) (nL := 3) (by decide) rfl (Nat.le_of_ble_eq_true rfl) ?_
  intro p e s m args below meth c A hc hr
  have C_17 : ∀ (thr : Int) (nvi : Int) (low : Int) (high : Int) (z : Nat → Int) (vi : Nat → Int) (x1 : Int) (x2 : Int) (s0 : Int), wp_X5_path_17 thr nvi low high z vi x1 x2 s0 Q → V p l e rm_X5_path s m args below meth c D A 3 0 0 (MQ below (QI D A (W1_X5_path t hM zA spA svA soA ikA txA viA srA frA toA hoA keA nsv len nto spo mos z sp sv so ik tx sr fr to ho ke) (po_X5_path Q)) args s 0 0 A) 17 [(0, .ref hM), (1, .int (iI x1)), (2, .int (iI x2))] [.int (iI s0), .ref hM] [oB hM 5 [.ref zA, .ref spA, .ref svA, .int (iI nsv), .ref soA, .ref ikA, .ref txA, .int (iI len), .int (iI thr), .int (iI nvi), .ref viA, .int (iI low), .int (iI high), .ref srA, .ref frA, .ref toA, .ref hoA, .ref keA, .int (iI nto), .int (iI spo), .int (iI mos)], aI t zA 646 z, aI t spA 646 sp, aI t svA 3876 sv, aI t soA 1292 so, aZ t ikA 2 ik, aI t txA 60 tx, aI t viA 120 vi, aI t srA 120 sr, aI t frA 122 fr, aI t toA 122 to, aI t hoA 31 ho, aI t keA 31 ke] := by
    intro thr nvi low high z vi x1 x2 s0 hv
    unfold wp_X5_path_17 at hv
    refine V_callVI (As := [.int (iI s0)]) hc (wc := [oB hM 5 [.ref zA, .ref spA, .ref svA, .int (iI nsv), .ref soA, .ref ikA, .ref txA, .int (iI len), .int (iI thr), .int (iI nvi), .ref viA, .int (iI low), .int (iI high), .ref srA, .ref frA, .ref toA, .ref hoA, .ref keA, .int (iI nto), .int (iI spo), .int (iI mos)], aI t zA 646 z, aI t spA 646 sp, aI t svA 3876 sv, aI t soA 1292 so, aZ t ikA 2 ik, aI t txA 60 tx, aI t viA 120 vi, aI t srA 120 sr, aI t frA 122 fr, aI t toA 122 to, aI t hoA 31 ho, aI t keA 31 ke]) (wr := []) (pmI [0, 1, 2, 3, 4, 5, 6, 7, 8, 9, 10, 11, 12] 13 rfl (by decide +kernel) rfl) rfl rfl (met_X5_refused l D t hM zA spA svA soA ikA txA viA srA frA toA hoA keA nsv len thr nvi low high nto spo mos z sp sv so ik tx vi sr fr to ho ke s0 _ hv) rfl gX5_path_X5_refused rfl ⟨rfl, rfl⟩ ok_X5_refused (by decide) (Nat.le_of_ble_eq_true rfl) dX5_path_17 (by decide) (fun r_2 u9 hv => ?_)
    obtain ⟨thr_2, h9⟩ : ∃ z, z = u9 := ⟨_, rfl⟩
    subst h9
    try dsimp only at hv
    refine V_perm (ws1 := [oB hM 5 [.ref zA, .ref spA, .ref svA, .int (iI nsv), .ref soA, .ref ikA, .ref txA, .int (iI len), .int (iI thr_2), .int (iI nvi), .ref viA, .int (iI low), .int (iI high), .ref srA, .ref frA, .ref toA, .ref hoA, .ref keA, .int (iI nto), .int (iI spo), .int (iI mos)], aI t zA 646 z, aI t spA 646 sp, aI t svA 3876 sv, aI t soA 1292 so, aZ t ikA 2 ik, aI t txA 60 tx, aI t viA 120 vi, aI t srA 120 sr, aI t frA 122 fr, aI t toA 122 to, aI t hoA 31 ho, aI t keA 31 ke]) (pmI [0, 1, 2, 3, 4, 5, 6, 7, 8, 9, 10, 11, 12] 13 rfl (by decide +kernel) rfl) ?_
    refine V_if_eq (tgt := 25) hc dX5_path_20 (by decide) hv (fun hv => ?_) (fun hv => ?_)
    · refine V_aload_n hc dX5_path_25 0 rfl ?_
      refine V_iconst hc dX5_path_26 ?_
      refine V_iload_n hc dX5_path_27 1 rfl ?_
      refine V_callVV (As := [.int (iI 0), .int (iI x1)]) hc (wc := [oB hM 5 [.ref zA, .ref spA, .ref svA, .int (iI nsv), .ref soA, .ref ikA, .ref txA, .int (iI len), .int (iI thr_2), .int (iI nvi), .ref viA, .int (iI low), .int (iI high), .ref srA, .ref frA, .ref toA, .ref hoA, .ref keA, .int (iI nto), .int (iI spo), .int (iI mos)], aI t zA 646 z, aI t spA 646 sp, aI t svA 3876 sv, aI t soA 1292 so, aZ t ikA 2 ik, aI t txA 60 tx, aI t viA 120 vi, aI t srA 120 sr, aI t frA 122 fr, aI t toA 122 to, aI t hoA 31 ho, aI t keA 31 ke]) (wr := []) (pmI [0, 1, 2, 3, 4, 5, 6, 7, 8, 9, 10, 11, 12] 13 rfl (by decide +kernel) rfl) rfl rfl (met_X5_seek l D t hM zA spA svA soA ikA txA viA srA frA toA hoA keA nsv len thr_2 nvi low high nto spo mos z sp sv so ik tx vi sr fr to ho ke 0 x1 _ hv) rfl gX5_path_X5_seek rfl ⟨rfl, rfl⟩ ok_X5_seek (by decide) (Nat.le_of_ble_eq_true rfl) dX5_path_28 (by decide) (fun u9 hv => ?_)
      obtain ⟨nvi_3, low_3, high_3, vi_3⟩ := u9
      try dsimp only at hv
      refine V_perm (ws1 := [oB hM 5 [.ref zA, .ref spA, .ref svA, .int (iI nsv), .ref soA, .ref ikA, .ref txA, .int (iI len), .int (iI thr_2), .int (iI nvi_3), .ref viA, .int (iI low_3), .int (iI high_3), .ref srA, .ref frA, .ref toA, .ref hoA, .ref keA, .int (iI nto), .int (iI spo), .int (iI mos)], aI t zA 646 z, aI t spA 646 sp, aI t svA 3876 sv, aI t soA 1292 so, aZ t ikA 2 ik, aI t txA 60 tx, aI t viA 120 vi_3, aI t srA 120 sr, aI t frA 122 fr, aI t toA 122 to, aI t hoA 31 ho, aI t keA 31 ke]) (pmI [0, 1, 2, 3, 4, 5, 6, 7, 8, 9, 10, 11, 12] 13 rfl (by decide +kernel) rfl) ?_
      refine V_iload_n hc dX5_path_31 2 rfl ?_
      refine V_aload_n hc dX5_path_32 0 rfl ?_
      refine V_get (C := RX5) (T := TX5) (N := 21) hc i_X5_path_5 0 rfl rfl 9 (by decide) m_X5_path_66 rfl dX5_path_33 ?_
      refine V_icmp_ge (tgt := 48) hc dX5_path_36 (by decide) hv (fun hv => ?_) (fun hv => ?_)
      · refine V_iconst hc dX5_path_48 ?_
        exact V_iret hc hr (thr_2, nvi_3, low_3, high_3, vi_3) hv rfl dX5_path_49
      · refine V_aload_n hc dX5_path_39 0 rfl ?_
        refine V_get (C := RX5) (T := TX5) (N := 21) hc i_X5_path_5 0 rfl rfl 10 (by decide) m_X5_path_29 rfl dX5_path_40 ?_
        refine V_iload_n hc dX5_path_43 2 rfl ?_
        refine V_iald hc 7 rfl (by decide) hv dX5_path_44 (fun hv => ?_)
        refine V_goto (tgt := 49) hc dX5_path_45 (by decide) ?_
        exact V_iret hc hr (thr_2, nvi_3, low_3, high_3, vi_3) hv rfl dX5_path_49
    · refine V_iconst hc dX5_path_23 ?_
      exact V_iret hc hr (thr_2, nvi, low, high, vi) hv rfl dX5_path_24
  have C_12 : ∀ (thr : Int) (nvi : Int) (low : Int) (high : Int) (z : Nat → Int) (vi : Nat → Int) (x1 : Int) (x2 : Int), wp_X5_path_12 thr nvi low high z vi x1 x2 Q → V p l e rm_X5_path s m args below meth c D A 3 0 0 (MQ below (QI D A (W1_X5_path t hM zA spA svA soA ikA txA viA srA frA toA hoA keA nsv len nto spo mos z sp sv so ik tx sr fr to ho ke) (po_X5_path Q)) args s 0 0 A) 12 [(0, .ref hM), (1, .int (iI x1)), (2, .int (iI x2))] [.ref hM] [oB hM 5 [.ref zA, .ref spA, .ref svA, .int (iI nsv), .ref soA, .ref ikA, .ref txA, .int (iI len), .int (iI thr), .int (iI nvi), .ref viA, .int (iI low), .int (iI high), .ref srA, .ref frA, .ref toA, .ref hoA, .ref keA, .int (iI nto), .int (iI spo), .int (iI mos)], aI t zA 646 z, aI t spA 646 sp, aI t svA 3876 sv, aI t soA 1292 so, aZ t ikA 2 ik, aI t txA 60 tx, aI t viA 120 vi, aI t srA 120 sr, aI t frA 122 fr, aI t toA 122 to, aI t hoA 31 ho, aI t keA 31 ke] := by
    intro thr nvi low high z vi x1 x2 hv
    unfold wp_X5_path_12 at hv
    refine V_iconst hc dX5_path_12 ?_
    refine V_goto (tgt := 17) hc dX5_path_13 (by decide) ?_
    exact C_17 thr nvi low high z vi x1 x2 1 hv
  refine V_lv [0, 1, 2] [(0, .ref hM), (1, .int (iI x1)), (2, .int (iI x2))] rfl ?_
  unfold wp_X5_path at hv
  refine V_aload_n hc dX5_path_0 0 rfl ?_
  refine V_iload_n hc dX5_path_1 1 rfl ?_
  refine V_callSI (As := [.int (iI x1)]) hc (wc := []) (wr := [oB hM 5 [.ref zA, .ref spA, .ref svA, .int (iI nsv), .ref soA, .ref ikA, .ref txA, .int (iI len), .int (iI thr), .int (iI nvi), .ref viA, .int (iI low), .int (iI high), .ref srA, .ref frA, .ref toA, .ref hoA, .ref keA, .int (iI nto), .int (iI spo), .int (iI mos)], aI t zA 646 z, aI t spA 646 sp, aI t svA 3876 sv, aI t soA 1292 so, aZ t ikA 2 ik, aI t txA 60 tx, aI t viA 120 vi, aI t srA 120 sr, aI t frA 122 fr, aI t toA 122 to, aI t hoA 31 ho, aI t keA 31 ke]) (pmI [0, 1, 2, 3, 4, 5, 6, 7, 8, 9, 10, 11, 12] 13 rfl (by decide +kernel) rfl) (met_X5_isKey l D t x1 _ hv) rfl gX5_path_X5_isKey rfl ⟨rfl, rfl⟩ ok_X5_isKey (by decide) (Nat.le_of_ble_eq_true rfl) dX5_path_2 (by decide) (fun r_1 _ hv => ?_)
  try dsimp only at hv
  refine V_perm (ws1 := [oB hM 5 [.ref zA, .ref spA, .ref svA, .int (iI nsv), .ref soA, .ref ikA, .ref txA, .int (iI len), .int (iI thr), .int (iI nvi), .ref viA, .int (iI low), .int (iI high), .ref srA, .ref frA, .ref toA, .ref hoA, .ref keA, .int (iI nto), .int (iI spo), .int (iI mos)], aI t zA 646 z, aI t spA 646 sp, aI t svA 3876 sv, aI t soA 1292 so, aZ t ikA 2 ik, aI t txA 60 tx, aI t viA 120 vi, aI t srA 120 sr, aI t frA 122 fr, aI t toA 122 to, aI t hoA 31 ho, aI t keA 31 ke]) (pmI [0, 1, 2, 3, 4, 5, 6, 7, 8, 9, 10, 11, 12] 13 rfl (by decide +kernel) rfl) ?_
  refine V_if_eq (tgt := 12) hc dX5_path_5 (by decide) hv (fun hv => ?_) (fun hv => ?_)
  · exact C_12 thr nvi low high z vi x1 x2 hv
  · refine V_iload_n hc dX5_path_8 2 rfl ?_
    refine V_if_ge (tgt := 16) hc dX5_path_9 (by decide) hv (fun hv => ?_) (fun hv => ?_)
    · refine V_iconst hc dX5_path_16 ?_
      exact C_17 thr nvi low high z vi x1 x2 0 hv
    · exact C_12 thr nvi low high z vi x1 x2 hv
abbrev W1_X5_depths (t : Nat → ClassId) (hM : Nat) (zA : Nat) (spA : Nat) (svA : Nat) (soA : Nat) (ikA : Nat) (txA : Nat) (viA : Nat) (srA : Nat) (frA : Nat) (toA : Nat) (hoA : Nat) (keA : Nat) (nsv : Int) (len : Int) (thr : Int) (nto : Int) (spo : Int) (mos : Int) (z : Nat → Int) (sp : Nat → Int) (sv : Nat → Int) (so : Nat → Int) (ik : Nat → Int) (tx : Nat → Int) (sr : Nat → Int) (fr : Nat → Int) (to : Nat → Int) (ho : Nat → Int) (ke : Nat → Int) (u : (Int) × (Int) × (Int) × (Nat → Int)) : va_W := [oB hM 5 [.ref zA, .ref spA, .ref svA, .int (iI nsv), .ref soA, .ref ikA, .ref txA, .int (iI len), .int (iI thr), .int (iI u.1), .ref viA, .int (iI u.2.1), .int (iI u.2.2.1), .ref srA, .ref frA, .ref toA, .ref hoA, .ref keA, .int (iI nto), .int (iI spo), .int (iI mos)], aI t zA 646 z, aI t spA 646 sp, aI t svA 3876 sv, aI t soA 1292 so, aZ t ikA 2 ik, aI t txA 60 tx, aI t viA 120 u.2.2.2, aI t srA 120 sr, aI t frA 122 fr, aI t toA 122 to, aI t hoA 31 ho, aI t keA 31 ke]
abbrev po_X5_depths (Q : Int → (Int) → (Int) → (Int) → (Nat → Int) → Prop) (r : Int) (u : (Int) × (Int) × (Int) × (Nat → Int)) : Prop := Q r u.1 u.2.1 u.2.2.1 u.2.2.2
abbrev rm_X5_depths : Room := { frames := 2, cells := 0, slots := 0, locals := 47 }
def wp_X5_depths_4 (z : Nat → Int) (x1 : Int) (Q : Int → (Int) → (Int) → (Int) → (Nat → Int) → Prop) (K_4 : (Int) → (Int) → (Int) → (Nat → Int) → Int → Int → Prop) (nvi : Int) (low : Int) (high : Int) (vi : Nat → Int) (x2 : Int) (x3 : Int) : Prop := (0 ≤ x1 ∧ x1 < 646) ∧ inR x3 ∧ inR (z x1.toNat) ∧ (x3 ≥ z x1.toNat → Q x2 nvi low high vi) ∧ (¬ (x3 ≥ z x1.toNat) → (0 ≤ (x1 + 1) + x3 ∧ (x1 + 1) + x3 < 646) ∧ wp_X5_depthOf nvi low high z vi x1 (z ((x1 + 1) + x3).toNat) (fun r_1 nvi_1 low_1 high_1 vi_1 => K_4 nvi_1 low_1 high_1 vi_1 (x2 + r_1) (x3 + 1)))
def wp_X5_depths (nvi : Int) (low : Int) (high : Int) (z : Nat → Int) (vi : Nat → Int) (x1 : Int) (Q : Int → (Int) → (Int) → (Int) → (Nat → Int) → Prop) : Prop := (∃ n, lq6 (wp_X5_depths_4 z x1 Q) n nvi low high vi 0 0)
theorem m_X5_depths_7 : Cond.fieldLink RX5 7 "BackgroundRebuildModel" "z" "[I" ∈ wsX5_depths := by decide +kernel
theorem i_X5_depths_5 : ∀ w ∈ u_ws RX5 TX5 21, w ∈ wsX5_depths := by decide +kernel
theorem ok_X5_depths : yX5_depths.cls = RX5 ∧ yX5_depths.cls ≠ "java/lang/invoke/MethodHandle" ∧ yX5_depths.cls ≠ "java/lang/invoke/VarHandle" ∧ (parseMethodDescriptor yX5_depths.desc).map (fun d => d.parameters.length) = some 1 := by decide +kernel
set_option maxHeartbeats 4000000 in
set_option maxRecDepth 100000 in
theorem met_X5_depths (l : Launch) (D : va_G) (t : Nat → ClassId) (hM : Nat) (zA : Nat) (spA : Nat) (svA : Nat) (soA : Nat) (ikA : Nat) (txA : Nat) (viA : Nat) (srA : Nat) (frA : Nat) (toA : Nat) (hoA : Nat) (keA : Nat) (nsv : Int) (len : Int) (thr : Int) (nvi : Int) (low : Int) (high : Int) (nto : Int) (spo : Int) (mos : Int) (z : Nat → Int) (sp : Nat → Int) (sv : Nat → Int) (so : Nat → Int) (ik : Nat → Int) (tx : Nat → Int) (vi : Nat → Int) (sr : Nat → Int) (fr : Nat → Int) (to : Nat → Int) (ho : Nat → Int) (ke : Nat → Int) (x1 : Int) (Q : Int → (Int) → (Int) → (Int) → (Nat → Int) → Prop) (hv : wp_X5_depths nvi low high z vi x1 Q) : MI l D t yX5_depths wsX5_depths rm_X5_depths [.ref hM, .int (iI x1)] [oB hM 5 [.ref zA, .ref spA, .ref svA, .int (iI nsv), .ref soA, .ref ikA, .ref txA, .int (iI len), .int (iI thr), .int (iI nvi), .ref viA, .int (iI low), .int (iI high), .ref srA, .ref frA, .ref toA, .ref hoA, .ref keA, .int (iI nto), .int (iI spo), .int (iI mos)], aI t zA 646 z, aI t spA 646 sp, aI t svA 3876 sv, aI t soA 1292 so, aZ t ikA 2 ik, aI t txA 60 tx, aI t viA 120 vi, aI t srA 120 sr, aI t frA 122 fr, aI t toA 122 to, aI t hoA 31 ho, aI t keA 31 ke] (W1_X5_depths t hM zA spA svA soA ikA txA viA srA frA toA hoA keA nsv len thr nto spo mos z sp sv so ik tx sr fr to ho ke) (po_X5_depths Q) 0 0 := by
  refine M_ofi (cc := cX5_depths) (nL := 4) (by decide) rfl (Nat.le_of_ble_eq_true rfl) ?_
  intro p e s m args below meth c A hc hr
  have L_4 : ∀ (z : Nat → Int) (x1 : Int) (n9 : Nat) (nvi : Int) (low : Int) (high : Int) (vi : Nat → Int) (x2 : Int) (x3 : Int), lq6 (wp_X5_depths_4 z x1 Q) n9 nvi low high vi x2 x3 → V p l e rm_X5_depths s m args below meth c D A 4 0 0 (MQ below (QI D A (W1_X5_depths t hM zA spA svA soA ikA txA viA srA frA toA hoA keA nsv len thr nto spo mos z sp sv so ik tx sr fr to ho ke) (po_X5_depths Q)) args s 0 0 A) 4 [(0, .ref hM), (1, .int (iI x1)), (2, .int (iI x2)), (3, .int (iI x3))] [] [oB hM 5 [.ref zA, .ref spA, .ref svA, .int (iI nsv), .ref soA, .ref ikA, .ref txA, .int (iI len), .int (iI thr), .int (iI nvi), .ref viA, .int (iI low), .int (iI high), .ref srA, .ref frA, .ref toA, .ref hoA, .ref keA, .int (iI nto), .int (iI spo), .int (iI mos)], aI t zA 646 z, aI t spA 646 sp, aI t svA 3876 sv, aI t soA 1292 so, aZ t ikA 2 ik, aI t txA 60 tx, aI t viA 120 vi, aI t srA 120 sr, aI t frA 122 fr, aI t toA 122 to, aI t hoA 31 ho, aI t keA 31 ke] := by
    intro z x1 n9
    induction n9 with
    | zero =>
      intro nvi low high vi x2 x3 hv
      exact hv.elim
    | succ n9 ih =>
      intro nvi low high vi x2 x3 hv
      have hv : wp_X5_depths_4 z x1 Q (lq6 (wp_X5_depths_4 z x1 Q) n9) nvi low high vi x2 x3 := hv
      generalize lq6 (wp_X5_depths_4 z x1 Q) n9 = K_4 at hv ih
      have hK_4 := ih
      unfold wp_X5_depths_4 at hv
      refine V_iload_n hc dX5_depths_4 3 rfl ?_
      refine V_aload_n hc dX5_depths_5 0 rfl ?_
      refine V_get (C := RX5) (T := TX5) (N := 21) hc i_X5_depths_5 0 rfl rfl 0 (by decide) m_X5_depths_7 rfl dX5_depths_6 ?_
      refine V_iload_n hc dX5_depths_9 1 rfl ?_
      refine V_iald hc 1 rfl (by decide) hv dX5_depths_10 (fun hv => ?_)
      refine V_icmp_ge (tgt := 38) hc dX5_depths_11 (by decide) hv (fun hv => ?_) (fun hv => ?_)
      · refine V_iload_n hc dX5_depths_38 2 rfl ?_
        exact V_iret hc hr (nvi, low, high, vi) hv rfl dX5_depths_39
      · refine V_iload_n hc dX5_depths_14 2 rfl ?_
        refine V_aload_n hc dX5_depths_15 0 rfl ?_
        refine V_iload_n hc dX5_depths_16 1 rfl ?_
        refine V_aload_n hc dX5_depths_17 0 rfl ?_
        refine V_get (C := RX5) (T := TX5) (N := 21) hc i_X5_depths_5 0 rfl rfl 0 (by decide) m_X5_depths_7 rfl dX5_depths_18 ?_
        refine V_iload_n hc dX5_depths_21 1 rfl ?_
        refine V_iconst hc dX5_depths_22 ?_
        refine V_iadd hc dX5_depths_23 ?_
        refine V_iload_n hc dX5_depths_24 3 rfl ?_
        refine V_iadd hc dX5_depths_25 ?_
        refine V_iald hc 1 rfl (by decide) hv dX5_depths_26 (fun hv => ?_)
        refine V_callVI (As := [.int (iI x1), .int (iI (z ((x1 + 1) + x3).toNat))]) hc (wc := [oB hM 5 [.ref zA, .ref spA, .ref svA, .int (iI nsv), .ref soA, .ref ikA, .ref txA, .int (iI len), .int (iI thr), .int (iI nvi), .ref viA, .int (iI low), .int (iI high), .ref srA, .ref frA, .ref toA, .ref hoA, .ref keA, .int (iI nto), .int (iI spo), .int (iI mos)], aI t zA 646 z, aI t spA 646 sp, aI t svA 3876 sv, aI t soA 1292 so, aZ t ikA 2 ik, aI t txA 60 tx, aI t viA 120 vi, aI t srA 120 sr, aI t frA 122 fr, aI t toA 122 to, aI t hoA 31 ho, aI t keA 31 ke]) (wr := []) (pmI [0, 1, 2, 3, 4, 5, 6, 7, 8, 9, 10, 11, 12] 13 rfl (by decide +kernel) rfl) rfl rfl (met_X5_depthOf l D t hM zA spA svA soA ikA txA viA srA frA toA hoA keA nsv len thr nvi low high nto spo mos z sp sv so ik tx vi sr fr to ho ke x1 (z ((x1 + 1) + x3).toNat) _ hv) rfl gX5_depths_X5_depthOf rfl ⟨rfl, rfl⟩ ok_X5_depthOf (by decide) (Nat.le_of_ble_eq_true rfl) dX5_depths_27 (by decide) (fun r_1 u9 hv => ?_)
        obtain ⟨nvi_1, low_1, high_1, vi_1⟩ := u9
        try dsimp only at hv
        refine V_perm (ws1 := [oB hM 5 [.ref zA, .ref spA, .ref svA, .int (iI nsv), .ref soA, .ref ikA, .ref txA, .int (iI len), .int (iI thr), .int (iI nvi_1), .ref viA, .int (iI low_1), .int (iI high_1), .ref srA, .ref frA, .ref toA, .ref hoA, .ref keA, .int (iI nto), .int (iI spo), .int (iI mos)], aI t zA 646 z, aI t spA 646 sp, aI t svA 3876 sv, aI t soA 1292 so, aZ t ikA 2 ik, aI t txA 60 tx, aI t viA 120 vi_1, aI t srA 120 sr, aI t frA 122 fr, aI t toA 122 to, aI t hoA 31 ho, aI t keA 31 ke]) (pmI [0, 1, 2, 3, 4, 5, 6, 7, 8, 9, 10, 11, 12] 13 rfl (by decide +kernel) rfl) ?_
        refine V_iadd hc dX5_depths_30 ?_
        refine V_istore_n hc dX5_depths_31 [(2, .int (iI (x2 + r_1))), (0, .ref hM), (1, .int (iI x1)), (3, .int (iI x3))] (by decide) rfl ?_
        refine V_iinc hc dX5_depths_32 3 rfl [(3, .int (iI (x3 + 1))), (2, .int (iI (x2 + r_1))), (0, .ref hM), (1, .int (iI x1))] (by decide) rfl ?_
        refine V_goto (tgt := 4) hc dX5_depths_35 (by decide) ?_
        refine V_lv [2, 3, 1, 0] [(0, .ref hM), (1, .int (iI x1)), (2, .int (iI (x2 + r_1))), (3, .int (iI (x3 + 1)))] rfl ?_
        exact hK_4 nvi_1 low_1 high_1 vi_1 (x2 + r_1) (x3 + 1) hv
  refine V_lv [0, 1] [(0, .ref hM), (1, .int (iI x1))] rfl ?_
  unfold wp_X5_depths at hv
  refine V_iconst hc dX5_depths_0 ?_
  refine V_istore_n hc dX5_depths_1 [(2, .int (iI 0)), (0, .ref hM), (1, .int (iI x1))] (by decide) rfl ?_
  refine V_iconst hc dX5_depths_2 ?_
  refine V_istore_n hc dX5_depths_3 [(3, .int (iI 0)), (2, .int (iI 0)), (0, .ref hM), (1, .int (iI x1))] (by decide) rfl ?_
  refine V_lv [2, 3, 1, 0] [(0, .ref hM), (1, .int (iI x1)), (2, .int (iI 0)), (3, .int (iI 0))] rfl ?_
  obtain ⟨n9, hv⟩ := hv
  exact L_4 z x1 n9 nvi low high vi 0 0 hv
abbrev W1_X5_leaves (t : Nat → ClassId) (hM : Nat) (zA : Nat) (spA : Nat) (svA : Nat) (soA : Nat) (ikA : Nat) (txA : Nat) (viA : Nat) (srA : Nat) (frA : Nat) (toA : Nat) (hoA : Nat) (keA : Nat) (nsv : Int) (len : Int) (thr : Int) (nto : Int) (spo : Int) (mos : Int) (z : Nat → Int) (sp : Nat → Int) (sv : Nat → Int) (so : Nat → Int) (ik : Nat → Int) (tx : Nat → Int) (sr : Nat → Int) (fr : Nat → Int) (to : Nat → Int) (ho : Nat → Int) (ke : Nat → Int) (u : (Int) × (Int) × (Int) × (Nat → Int)) : va_W := [oB hM 5 [.ref zA, .ref spA, .ref svA, .int (iI nsv), .ref soA, .ref ikA, .ref txA, .int (iI len), .int (iI thr), .int (iI u.1), .ref viA, .int (iI u.2.1), .int (iI u.2.2.1), .ref srA, .ref frA, .ref toA, .ref hoA, .ref keA, .int (iI nto), .int (iI spo), .int (iI mos)], aI t zA 646 z, aI t spA 646 sp, aI t svA 3876 sv, aI t soA 1292 so, aZ t ikA 2 ik, aI t txA 60 tx, aI t viA 120 u.2.2.2, aI t srA 120 sr, aI t frA 122 fr, aI t toA 122 to, aI t hoA 31 ho, aI t keA 31 ke]
abbrev po_X5_leaves (Q : Int → (Int) → (Int) → (Int) → (Nat → Int) → Prop) (r : Int) (u : (Int) × (Int) × (Int) × (Nat → Int)) : Prop := Q r u.1 u.2.1 u.2.2.1 u.2.2.2
abbrev rm_X5_leaves : Room := { frames := 2, cells := 0, slots := 0, locals := 48 }
def wp_X5_leaves_4 (z : Nat → Int) (x1 : Int) (Q : Int → (Int) → (Int) → (Int) → (Nat → Int) → Prop) (K_4 : (Int) → (Int) → (Int) → (Nat → Int) → Int → Int → Prop) (nvi : Int) (low : Int) (high : Int) (vi : Nat → Int) (x2 : Int) (x3 : Int) : Prop := (0 ≤ x1 ∧ x1 < 646) ∧ inR x3 ∧ inR (z x1.toNat) ∧ (x3 ≥ z x1.toNat → Q x2 nvi low high vi) ∧ (¬ (x3 ≥ z x1.toNat) → (0 ≤ (x1 + 1) + x3 ∧ (x1 + 1) + x3 < 646) ∧ wp_X5_seekBounds nvi low high z vi x1 (z ((x1 + 1) + x3).toNat) (fun nvi_1 low_1 high_1 vi_1 => wp_X5_between z x1 low_1 high_1 0 (fun r_2 => inR r_2 ∧ (r_2 ≠ 1 → K_4 nvi_1 low_1 high_1 vi_1 (x2 + 0) (x3 + 1)) ∧ (¬ (r_2 ≠ 1) → K_4 nvi_1 low_1 high_1 vi_1 (x2 + 1) (x3 + 1)))))
def wp_X5_leaves (nvi : Int) (low : Int) (high : Int) (z : Nat → Int) (vi : Nat → Int) (x1 : Int) (Q : Int → (Int) → (Int) → (Int) → (Nat → Int) → Prop) : Prop := (∃ n, lq6 (wp_X5_leaves_4 z x1 Q) n nvi low high vi 0 0)
theorem m_X5_leaves_7 : Cond.fieldLink RX5 7 "BackgroundRebuildModel" "z" "[I" ∈ wsX5_leaves := by decide +kernel
theorem m_X5_leaves_69 : Cond.fieldLink RX5 69 "BackgroundRebuildModel" "low" "I" ∈ wsX5_leaves := by decide +kernel
theorem m_X5_leaves_72 : Cond.fieldLink RX5 72 "BackgroundRebuildModel" "high" "I" ∈ wsX5_leaves := by decide +kernel
theorem i_X5_leaves_5 : ∀ w ∈ u_ws RX5 TX5 21, w ∈ wsX5_leaves := by decide +kernel
theorem ok_X5_leaves : yX5_leaves.cls = RX5 ∧ yX5_leaves.cls ≠ "java/lang/invoke/MethodHandle" ∧ yX5_leaves.cls ≠ "java/lang/invoke/VarHandle" ∧ (parseMethodDescriptor yX5_leaves.desc).map (fun d => d.parameters.length) = some 1 := by decide +kernel
set_option maxHeartbeats 4000000 in
set_option maxRecDepth 100000 in
theorem met_X5_leaves (l : Launch) (D : va_G) (t : Nat → ClassId) (hM : Nat) (zA : Nat) (spA : Nat) (svA : Nat) (soA : Nat) (ikA : Nat) (txA : Nat) (viA : Nat) (srA : Nat) (frA : Nat) (toA : Nat) (hoA : Nat) (keA : Nat) (nsv : Int) (len : Int) (thr : Int) (nvi : Int) (low : Int) (high : Int) (nto : Int) (spo : Int) (mos : Int) (z : Nat → Int) (sp : Nat → Int) (sv : Nat → Int) (so : Nat → Int) (ik : Nat → Int) (tx : Nat → Int) (vi : Nat → Int) (sr : Nat → Int) (fr : Nat → Int) (to : Nat → Int) (ho : Nat → Int) (ke : Nat → Int) (x1 : Int) (Q : Int → (Int) → (Int) → (Int) → (Nat → Int) → Prop) (hv : wp_X5_leaves nvi low high z vi x1 Q) : MI l D t yX5_leaves wsX5_leaves rm_X5_leaves [.ref hM, .int (iI x1)] [oB hM 5 [.ref zA, .ref spA, .ref svA, .int (iI nsv), .ref soA, .ref ikA, .ref txA, .int (iI len), .int (iI thr), .int (iI nvi), .ref viA, .int (iI low), .int (iI high), .ref srA, .ref frA, .ref toA, .ref hoA, .ref keA, .int (iI nto), .int (iI spo), .int (iI mos)], aI t zA 646 z, aI t spA 646 sp, aI t svA 3876 sv, aI t soA 1292 so, aZ t ikA 2 ik, aI t txA 60 tx, aI t viA 120 vi, aI t srA 120 sr, aI t frA 122 fr, aI t toA 122 to, aI t hoA 31 ho, aI t keA 31 ke] (W1_X5_leaves t hM zA spA svA soA ikA txA viA srA frA toA hoA keA nsv len thr nto spo mos z sp sv so ik tx sr fr to ho ke) (po_X5_leaves Q) 0 0 := by
  refine M_ofi (cc := cX5_leaves) (nL := 4) (by decide) rfl (Nat.le_of_ble_eq_true rfl) ?_
  intro p e s m args below meth c A hc hr
  have L_4 : ∀ (z : Nat → Int) (x1 : Int) (n9 : Nat) (nvi : Int) (low : Int) (high : Int) (vi : Nat → Int) (x2 : Int) (x3 : Int), lq6 (wp_X5_leaves_4 z x1 Q) n9 nvi low high vi x2 x3 → V p l e rm_X5_leaves s m args below meth c D A 4 0 0 (MQ below (QI D A (W1_X5_leaves t hM zA spA svA soA ikA txA viA srA frA toA hoA keA nsv len thr nto spo mos z sp sv so ik tx sr fr to ho ke) (po_X5_leaves Q)) args s 0 0 A) 4 [(0, .ref hM), (1, .int (iI x1)), (2, .int (iI x2)), (3, .int (iI x3))] [] [oB hM 5 [.ref zA, .ref spA, .ref svA, .int (iI nsv), .ref soA, .ref ikA, .ref txA, .int (iI len), .int (iI thr), .int (iI nvi), .ref viA, .int (iI low), .int (iI high), .ref srA, .ref frA, .ref toA, .ref hoA, .ref keA, .int (iI nto), .int (iI spo), .int (iI mos)], aI t zA 646 z, aI t spA 646 sp, aI t svA 3876 sv, aI t soA 1292 so, aZ t ikA 2 ik, aI t txA 60 tx, aI t viA 120 vi, aI t srA 120 sr, aI t frA 122 fr, aI t toA 122 to, aI t hoA 31 ho, aI t keA 31 ke] := by
    intro z x1 n9
    induction n9 with
    | zero =>
      intro nvi low high vi x2 x3 hv
      exact hv.elim
    | succ n9 ih =>
      intro nvi low high vi x2 x3 hv
      have hv : wp_X5_leaves_4 z x1 Q (lq6 (wp_X5_leaves_4 z x1 Q) n9) nvi low high vi x2 x3 := hv
      generalize lq6 (wp_X5_leaves_4 z x1 Q) n9 = K_4 at hv ih
      have hK_4 := ih
      unfold wp_X5_leaves_4 at hv
      refine V_iload_n hc dX5_leaves_4 3 rfl ?_
      refine V_aload_n hc dX5_leaves_5 0 rfl ?_
      refine V_get (C := RX5) (T := TX5) (N := 21) hc i_X5_leaves_5 0 rfl rfl 0 (by decide) m_X5_leaves_7 rfl dX5_leaves_6 ?_
      refine V_iload_n hc dX5_leaves_9 1 rfl ?_
      refine V_iald hc 1 rfl (by decide) hv dX5_leaves_10 (fun hv => ?_)
      refine V_icmp_ge (tgt := 61) hc dX5_leaves_11 (by decide) hv (fun hv => ?_) (fun hv => ?_)
      · refine V_iload_n hc dX5_leaves_61 2 rfl ?_
        exact V_iret hc hr (nvi, low, high, vi) hv rfl dX5_leaves_62
      · refine V_aload_n hc dX5_leaves_14 0 rfl ?_
        refine V_iload_n hc dX5_leaves_15 1 rfl ?_
        refine V_aload_n hc dX5_leaves_16 0 rfl ?_
        refine V_get (C := RX5) (T := TX5) (N := 21) hc i_X5_leaves_5 0 rfl rfl 0 (by decide) m_X5_leaves_7 rfl dX5_leaves_17 ?_
        refine V_iload_n hc dX5_leaves_20 1 rfl ?_
        refine V_iconst hc dX5_leaves_21 ?_
        refine V_iadd hc dX5_leaves_22 ?_
        refine V_iload_n hc dX5_leaves_23 3 rfl ?_
        refine V_iadd hc dX5_leaves_24 ?_
        refine V_iald hc 1 rfl (by decide) hv dX5_leaves_25 (fun hv => ?_)
        refine V_callVV (As := [.int (iI x1), .int (iI (z ((x1 + 1) + x3).toNat))]) hc (wc := [oB hM 5 [.ref zA, .ref spA, .ref svA, .int (iI nsv), .ref soA, .ref ikA, .ref txA, .int (iI len), .int (iI thr), .int (iI nvi), .ref viA, .int (iI low), .int (iI high), .ref srA, .ref frA, .ref toA, .ref hoA, .ref keA, .int (iI nto), .int (iI spo), .int (iI mos)], aI t zA 646 z, aI t spA 646 sp, aI t svA 3876 sv, aI t soA 1292 so, aZ t ikA 2 ik, aI t txA 60 tx, aI t viA 120 vi, aI t srA 120 sr, aI t frA 122 fr, aI t toA 122 to, aI t hoA 31 ho, aI t keA 31 ke]) (wr := []) (pmI [0, 1, 2, 3, 4, 5, 6, 7, 8, 9, 10, 11, 12] 13 rfl (by decide +kernel) rfl) rfl rfl (met_X5_seekBounds l D t hM zA spA svA soA ikA txA viA srA frA toA hoA keA nsv len thr nvi low high nto spo mos z sp sv so ik tx vi sr fr to ho ke x1 (z ((x1 + 1) + x3).toNat) _ hv) rfl gX5_leaves_X5_seekBounds rfl ⟨rfl, rfl⟩ ok_X5_seekBounds (by decide) (Nat.le_of_ble_eq_true rfl) dX5_leaves_26 (by decide) (fun u9 hv => ?_)
        obtain ⟨nvi_1, low_1, high_1, vi_1⟩ := u9
        try dsimp only at hv
        refine V_perm (ws1 := [oB hM 5 [.ref zA, .ref spA, .ref svA, .int (iI nsv), .ref soA, .ref ikA, .ref txA, .int (iI len), .int (iI thr), .int (iI nvi_1), .ref viA, .int (iI low_1), .int (iI high_1), .ref srA, .ref frA, .ref toA, .ref hoA, .ref keA, .int (iI nto), .int (iI spo), .int (iI mos)], aI t zA 646 z, aI t spA 646 sp, aI t svA 3876 sv, aI t soA 1292 so, aZ t ikA 2 ik, aI t txA 60 tx, aI t viA 120 vi_1, aI t srA 120 sr, aI t frA 122 fr, aI t toA 122 to, aI t hoA 31 ho, aI t keA 31 ke]) (pmI [0, 1, 2, 3, 4, 5, 6, 7, 8, 9, 10, 11, 12] 13 rfl (by decide +kernel) rfl) ?_
        refine V_iload_n hc dX5_leaves_29 2 rfl ?_
        refine V_aload_n hc dX5_leaves_30 0 rfl ?_
        refine V_iload_n hc dX5_leaves_31 1 rfl ?_
        refine V_aload_n hc dX5_leaves_32 0 rfl ?_
        refine V_get (C := RX5) (T := TX5) (N := 21) hc i_X5_leaves_5 0 rfl rfl 11 (by decide) m_X5_leaves_69 rfl dX5_leaves_33 ?_
        refine V_aload_n hc dX5_leaves_36 0 rfl ?_
        refine V_get (C := RX5) (T := TX5) (N := 21) hc i_X5_leaves_5 0 rfl rfl 12 (by decide) m_X5_leaves_72 rfl dX5_leaves_37 ?_
        refine V_iconst hc dX5_leaves_40 ?_
        refine V_callVI (As := [.int (iI x1), .int (iI low_1), .int (iI high_1), .int (iI 0)]) hc (wc := [oB hM 5 [.ref zA, .ref spA, .ref svA, .int (iI nsv), .ref soA, .ref ikA, .ref txA, .int (iI len), .int (iI thr), .int (iI nvi_1), .ref viA, .int (iI low_1), .int (iI high_1), .ref srA, .ref frA, .ref toA, .ref hoA, .ref keA, .int (iI nto), .int (iI spo), .int (iI mos)], aI t zA 646 z, aI t spA 646 sp, aI t svA 3876 sv, aI t soA 1292 so, aZ t ikA 2 ik, aI t txA 60 tx, aI t viA 120 vi_1, aI t srA 120 sr, aI t frA 122 fr, aI t toA 122 to, aI t hoA 31 ho, aI t keA 31 ke]) (wr := []) (pmI [0, 1, 2, 3, 4, 5, 6, 7, 8, 9, 10, 11, 12] 13 rfl (by decide +kernel) rfl) rfl rfl (met_X5_between l D t hM zA spA svA soA ikA txA viA srA frA toA hoA keA nsv len thr nvi_1 low_1 high_1 nto spo mos z sp sv so ik tx vi_1 sr fr to ho ke x1 low_1 high_1 0 _ hv) rfl gX5_leaves_X5_between rfl ⟨rfl, rfl⟩ ok_X5_between (by decide) (Nat.le_of_ble_eq_true rfl) dX5_leaves_41 (by decide) (fun r_2 _ hv => ?_)
        try dsimp only at hv
        refine V_perm (ws1 := [oB hM 5 [.ref zA, .ref spA, .ref svA, .int (iI nsv), .ref soA, .ref ikA, .ref txA, .int (iI len), .int (iI thr), .int (iI nvi_1), .ref viA, .int (iI low_1), .int (iI high_1), .ref srA, .ref frA, .ref toA, .ref hoA, .ref keA, .int (iI nto), .int (iI spo), .int (iI mos)], aI t zA 646 z, aI t spA 646 sp, aI t svA 3876 sv, aI t soA 1292 so, aZ t ikA 2 ik, aI t txA 60 tx, aI t viA 120 vi_1, aI t srA 120 sr, aI t frA 122 fr, aI t toA 122 to, aI t hoA 31 ho, aI t keA 31 ke]) (pmI [0, 1, 2, 3, 4, 5, 6, 7, 8, 9, 10, 11, 12] 13 rfl (by decide +kernel) rfl) ?_
        refine V_iconst hc dX5_leaves_44 ?_
        refine V_icmp_ne (tgt := 52) hc dX5_leaves_45 (by decide) ⟨hv.1, by decide, hv.2⟩ (fun hv => ?_) (fun hv => ?_)
        · refine V_iconst hc dX5_leaves_52 ?_
          refine V_iadd hc dX5_leaves_53 ?_
          refine V_istore_n hc dX5_leaves_54 [(2, .int (iI (x2 + 0))), (0, .ref hM), (1, .int (iI x1)), (3, .int (iI x3))] (by decide) rfl ?_
          refine V_iinc hc dX5_leaves_55 3 rfl [(3, .int (iI (x3 + 1))), (2, .int (iI (x2 + 0))), (0, .ref hM), (1, .int (iI x1))] (by decide) rfl ?_
          refine V_goto (tgt := 4) hc dX5_leaves_58 (by decide) ?_
          refine V_lv [2, 3, 1, 0] [(0, .ref hM), (1, .int (iI x1)), (2, .int (iI (x2 + 0))), (3, .int (iI (x3 + 1)))] rfl ?_
          exact hK_4 nvi_1 low_1 high_1 vi_1 (x2 + 0) (x3 + 1) hv
        · refine V_iconst hc dX5_leaves_48 ?_
          refine V_goto (tgt := 53) hc dX5_leaves_49 (by decide) ?_
          refine V_iadd hc dX5_leaves_53 ?_
          refine V_istore_n hc dX5_leaves_54 [(2, .int (iI (x2 + 1))), (0, .ref hM), (1, .int (iI x1)), (3, .int (iI x3))] (by decide) rfl ?_
          refine V_iinc hc dX5_leaves_55 3 rfl [(3, .int (iI (x3 + 1))), (2, .int (iI (x2 + 1))), (0, .ref hM), (1, .int (iI x1))] (by decide) rfl ?_
          refine V_goto (tgt := 4) hc dX5_leaves_58 (by decide) ?_
          refine V_lv [2, 3, 1, 0] [(0, .ref hM), (1, .int (iI x1)), (2, .int (iI (x2 + 1))), (3, .int (iI (x3 + 1)))] rfl ?_
          exact hK_4 nvi_1 low_1 high_1 vi_1 (x2 + 1) (x3 + 1) hv
  refine V_lv [0, 1] [(0, .ref hM), (1, .int (iI x1))] rfl ?_
  unfold wp_X5_leaves at hv
  refine V_iconst hc dX5_leaves_0 ?_
  refine V_istore_n hc dX5_leaves_1 [(2, .int (iI 0)), (0, .ref hM), (1, .int (iI x1))] (by decide) rfl ?_
  refine V_iconst hc dX5_leaves_2 ?_
  refine V_istore_n hc dX5_leaves_3 [(3, .int (iI 0)), (2, .int (iI 0)), (0, .ref hM), (1, .int (iI x1))] (by decide) rfl ?_
  refine V_lv [2, 3, 1, 0] [(0, .ref hM), (1, .int (iI x1)), (2, .int (iI 0)), (3, .int (iI 0))] rfl ?_
  obtain ⟨n9, hv⟩ := hv
  exact L_4 z x1 n9 nvi low high vi 0 0 hv
abbrev W1_X5_leastDepth (t : Nat → ClassId) (u : Unit) : va_W := []
abbrev po_X5_leastDepth (Q : Int → Prop) (r : Int) (u : Unit) : Prop := Q r
abbrev rm_X5_leastDepth : Room := { frames := 0, cells := 0, slots := 0, locals := 0 }
def wp_X5_leastDepth_4 (x0 : Int) (Q : Int → Prop) (K_4 : Int → Int → Prop) (x1 : Int) (x2 : Int) : Prop := inR x2 ∧ inR x0 ∧ (x2 ≥ x0 → Q x1) ∧ (¬ (x2 ≥ x0) → K_4 (x1 + 1) ((2 * x2) + 1))
def wp_X5_leastDepth (x0 : Int) (Q : Int → Prop) : Prop := (∃ n, lq2 (wp_X5_leastDepth_4 x0 Q) n 0 0)
theorem ok_X5_leastDepth : yX5_leastDepth.cls ≠ "java/lang/invoke/MethodHandle" ∧ yX5_leastDepth.cls ≠ "java/lang/invoke/VarHandle" ∧ (parseMethodDescriptor yX5_leastDepth.desc).map (fun d => d.parameters.length) = some 1 := by decide +kernel
set_option maxHeartbeats 4000000 in
set_option maxRecDepth 100000 in
theorem met_X5_leastDepth (l : Launch) (D : va_G) (t : Nat → ClassId) (x0 : Int) (Q : Int → Prop) (hv : wp_X5_leastDepth x0 Q) : MI l D t yX5_leastDepth wsX5_leastDepth rm_X5_leastDepth [.int (iI x0)] [] (W1_X5_leastDepth t ) (po_X5_leastDepth Q) 0 0 := by
  refine M_ofi (cc := cX5_leastDepth) (nL := 3) (by decide) rfl (Nat.le_of_ble_eq_true rfl) ?_
  intro p e s m args below meth c A hc hr
  have L_4 : ∀ (x0 : Int) (n9 : Nat) (x1 : Int) (x2 : Int), lq2 (wp_X5_leastDepth_4 x0 Q) n9 x1 x2 → V p l e rm_X5_leastDepth s m args below meth c D A 3 0 0 (MQ below (QI D A (W1_X5_leastDepth t ) (po_X5_leastDepth Q)) args s 0 0 A) 4 [(0, .int (iI x0)), (1, .int (iI x1)), (2, .int (iI x2))] [] [] := by
    intro x0 n9
    induction n9 with
    | zero =>
      intro x1 x2 hv
      exact hv.elim
    | succ n9 ih =>
      intro x1 x2 hv
      have hv : wp_X5_leastDepth_4 x0 Q (lq2 (wp_X5_leastDepth_4 x0 Q) n9) x1 x2 := hv
      generalize lq2 (wp_X5_leastDepth_4 x0 Q) n9 = K_4 at hv ih
      have hK_4 := ih
      unfold wp_X5_leastDepth_4 at hv
      refine V_iload_n hc dX5_leastDepth_4 2 rfl ?_
      refine V_iload_n hc dX5_leastDepth_5 0 rfl ?_
      refine V_icmp_ge (tgt := 21) hc dX5_leastDepth_6 (by decide) hv (fun hv => ?_) (fun hv => ?_)
      · refine V_iload_n hc dX5_leastDepth_21 1 rfl ?_
        exact V_iret hc hr () hv rfl dX5_leastDepth_22
      · refine V_iconst hc dX5_leastDepth_9 ?_
        refine V_iload_n hc dX5_leastDepth_10 2 rfl ?_
        refine V_imul hc dX5_leastDepth_11 ?_
        refine V_iconst hc dX5_leastDepth_12 ?_
        refine V_iadd hc dX5_leastDepth_13 ?_
        refine V_istore_n hc dX5_leastDepth_14 [(2, .int (iI ((2 * x2) + 1))), (0, .int (iI x0)), (1, .int (iI x1))] (by decide) rfl ?_
        refine V_iinc hc dX5_leastDepth_15 2 rfl [(1, .int (iI (x1 + 1))), (2, .int (iI ((2 * x2) + 1))), (0, .int (iI x0))] (by decide) rfl ?_
        refine V_goto (tgt := 4) hc dX5_leastDepth_18 (by decide) ?_
        refine V_lv [2, 0, 1] [(0, .int (iI x0)), (1, .int (iI (x1 + 1))), (2, .int (iI ((2 * x2) + 1)))] rfl ?_
        exact hK_4 (x1 + 1) ((2 * x2) + 1) hv
  refine V_lv [0] [(0, .int (iI x0))] rfl ?_
  unfold wp_X5_leastDepth at hv
  refine V_iconst hc dX5_leastDepth_0 ?_
  refine V_istore_n hc dX5_leastDepth_1 [(1, .int (iI 0)), (0, .int (iI x0))] (by decide) rfl ?_
  refine V_iconst hc dX5_leastDepth_2 ?_
  refine V_istore_n hc dX5_leastDepth_3 [(2, .int (iI 0)), (1, .int (iI 0)), (0, .int (iI x0))] (by decide) rfl ?_
  refine V_lv [2, 1, 0] [(0, .int (iI x0)), (1, .int (iI 0)), (2, .int (iI 0))] rfl ?_
  obtain ⟨n9, hv⟩ := hv
  exact L_4 x0 n9 0 0 hv
abbrev W1_X5_tree (t : Nat → ClassId) (hM : Nat) (zA : Nat) (spA : Nat) (svA : Nat) (soA : Nat) (ikA : Nat) (txA : Nat) (viA : Nat) (srA : Nat) (frA : Nat) (toA : Nat) (hoA : Nat) (keA : Nat) (nsv : Int) (len : Int) (nto : Int) (spo : Int) (mos : Int) (z : Nat → Int) (sp : Nat → Int) (sv : Nat → Int) (so : Nat → Int) (ik : Nat → Int) (tx : Nat → Int) (sr : Nat → Int) (fr : Nat → Int) (to : Nat → Int) (ho : Nat → Int) (ke : Nat → Int) (u : (Int) × (Int) × (Int) × (Int) × (Nat → Int)) : va_W := [oB hM 5 [.ref zA, .ref spA, .ref svA, .int (iI nsv), .ref soA, .ref ikA, .ref txA, .int (iI len), .int (iI u.1), .int (iI u.2.1), .ref viA, .int (iI u.2.2.1), .int (iI u.2.2.2.1), .ref srA, .ref frA, .ref toA, .ref hoA, .ref keA, .int (iI nto), .int (iI spo), .int (iI mos)], aI t zA 646 z, aI t spA 646 sp, aI t svA 3876 sv, aI t soA 1292 so, aZ t ikA 2 ik, aI t txA 60 tx, aI t viA 120 u.2.2.2.2, aI t srA 120 sr, aI t frA 122 fr, aI t toA 122 to, aI t hoA 31 ho, aI t keA 31 ke]
abbrev po_X5_tree (Q : Int → (Int) → (Int) → (Int) → (Int) → (Nat → Int) → Prop) (r : Int) (u : (Int) × (Int) × (Int) × (Int) × (Nat → Int)) : Prop := Q r u.1 u.2.1 u.2.2.1 u.2.2.2.1 u.2.2.2.2
abbrev rm_X5_tree : Room := { frames := 3, cells := 0, slots := 0, locals := 71 }
def wp_X5_tree_35 (thr : Int) (nvi : Int) (low : Int) (high : Int) (z : Nat → Int) (vi : Nat → Int) (x2 : Int) (s0 : Int) (Q : Int → (Int) → (Int) → (Int) → (Int) → (Nat → Int) → Prop) : Prop := inR x2 ∧ (x2 = 0 → (0 ≤ s0 ∧ s0 < 646) ∧ Q (z s0.toNat) thr nvi low high vi) ∧ (x2 = 1 → wp_X5_presentIn z s0 (fun r_3 => Q r_3 thr nvi low high vi)) ∧ (x2 = 2 → wp_X5_markedIn z s0 (fun r_4 => Q r_4 thr nvi low high vi)) ∧ (x2 = 3 → wp_X5_depthIn nvi low high z vi s0 (fun r_5 nvi_5 low_5 high_5 vi_5 => Q r_5 thr nvi_5 low_5 high_5 vi_5)) ∧ (x2 = 4 → wp_X5_depths nvi low high z vi s0 (fun r_6 nvi_6 low_6 high_6 vi_6 => Q r_6 thr nvi_6 low_6 high_6 vi_6)) ∧ (x2 = 5 → wp_X5_leaves nvi low high z vi s0 (fun r_7 nvi_7 low_7 high_7 vi_7 => Q r_7 thr nvi_7 low_7 high_7 vi_7)) ∧ (x2 < 0 ∨ 5 < x2 → wp_X5_presentIn z s0 (fun r_8 => wp_X5_leastDepth r_8 (fun r_9 => Q r_9 thr nvi low high vi)))
def wp_X5_tree_16 (thr : Int) (nvi : Int) (low : Int) (high : Int) (z : Nat → Int) (vi : Nat → Int) (x1 : Int) (x2 : Int) (s0 : Int) (Q : Int → (Int) → (Int) → (Int) → (Int) → (Nat → Int) → Prop) : Prop := wp_X5_refused thr s0 (fun r_2 thr_2 => inR r_2 ∧ (r_2 = 0 → inR x1 ∧ (x1 = 0 → wp_X5_tree_35 thr_2 nvi low high z vi x2 0 Q) ∧ (¬ (x1 = 0) → wp_X5_tree_35 thr_2 nvi low high z vi x2 241 Q)) ∧ (¬ (r_2 = 0) → Q 0 thr_2 nvi low high vi))
def wp_X5_tree (thr : Int) (nvi : Int) (low : Int) (high : Int) (z : Nat → Int) (vi : Nat → Int) (x1 : Int) (x2 : Int) (Q : Int → (Int) → (Int) → (Int) → (Int) → (Nat → Int) → Prop) : Prop := wp_X5_in x2 0 6 (fun r_1 => inR r_1 ∧ (r_1 = 0 → wp_X5_tree_16 thr nvi low high z vi x1 x2 1 Q) ∧ (¬ (r_1 = 0) → wp_X5_tree_16 thr nvi low high z vi x1 x2 0 Q))
theorem m_X5_tree_7 : Cond.fieldLink RX5 7 "BackgroundRebuildModel" "z" "[I" ∈ wsX5_tree := by decide +kernel
theorem i_X5_tree_5 : ∀ w ∈ u_ws RX5 TX5 21, w ∈ wsX5_tree := by decide +kernel
theorem ok_X5_tree : yX5_tree.cls = RX5 ∧ yX5_tree.cls ≠ "java/lang/invoke/MethodHandle" ∧ yX5_tree.cls ≠ "java/lang/invoke/VarHandle" ∧ (parseMethodDescriptor yX5_tree.desc).map (fun d => d.parameters.length) = some 2 := by decide +kernel
set_option maxHeartbeats 4000000 in
set_option maxRecDepth 100000 in
theorem met_X5_tree (l : Launch) (D : va_G) (t : Nat → ClassId) (hM : Nat) (zA : Nat) (spA : Nat) (svA : Nat) (soA : Nat) (ikA : Nat) (txA : Nat) (viA : Nat) (srA : Nat) (frA : Nat) (toA : Nat) (hoA : Nat) (keA : Nat) (nsv : Int) (len : Int) (thr : Int) (nvi : Int) (low : Int) (high : Int) (nto : Int) (spo : Int) (mos : Int) (z : Nat → Int) (sp : Nat → Int) (sv : Nat → Int) (so : Nat → Int) (ik : Nat → Int) (tx : Nat → Int) (vi : Nat → Int) (sr : Nat → Int) (fr : Nat → Int) (to : Nat → Int) (ho : Nat → Int) (ke : Nat → Int) (x1 : Int) (x2 : Int) (Q : Int → (Int) → (Int) → (Int) → (Int) → (Nat → Int) → Prop) (hv : wp_X5_tree thr nvi low high z vi x1 x2 Q) : MI l D t yX5_tree wsX5_tree rm_X5_tree [.ref hM, .int (iI x1), .int (iI x2)] [oB hM 5 [.ref zA, .ref spA, .ref svA, .int (iI nsv), .ref soA, .ref ikA, .ref txA, .int (iI len), .int (iI thr), .int (iI nvi), .ref viA, .int (iI low), .int (iI high), .ref srA, .ref frA, .ref toA, .ref hoA, .ref keA, .int (iI nto), .int (iI spo), .int (iI mos)], aI t zA 646 z, aI t spA 646 sp, aI t svA 3876 sv, aI t soA 1292 so, aZ t ikA 2 ik, aI t txA 60 tx, aI t viA 120 vi, aI t srA 120 sr, aI t frA 122 fr, aI t toA 122 to, aI t hoA 31 ho, aI t keA 31 ke] (W1_X5_tree t hM zA spA svA soA ikA txA viA srA frA toA hoA keA nsv len nto spo mos z sp sv so ik tx sr fr to ho ke) (po_X5_tree Q) 0 0 := by
  refine M_ofi (cc := cX5_tree) (nL := 4) (by decide) rfl (Nat.le_of_ble_eq_true rfl) ?_
  intro p e s m args below meth c A hc hr
  have C_35 : ∀ (thr : Int) (nvi : Int) (low : Int) (high : Int) (z : Nat → Int) (vi : Nat → Int) (x2 : Int) (s0 : Int), wp_X5_tree_35 thr nvi low high z vi x2 s0 Q → V p l e rm_X5_tree s m args below meth c D A 4 0 0 (MQ below (QI D A (W1_X5_tree t hM zA spA svA soA ikA txA viA srA frA toA hoA keA nsv len nto spo mos z sp sv so ik tx sr fr to ho ke) (po_X5_tree Q)) args s 0 0 A) 35 [(0, .ref hM), (2, .int (iI x2))] [.int (iI s0)] [oB hM 5 [.ref zA, .ref spA, .ref svA, .int (iI nsv), .ref soA, .ref ikA, .ref txA, .int (iI len), .int (iI thr), .int (iI nvi), .ref viA, .int (iI low), .int (iI high), .ref srA, .ref frA, .ref toA, .ref hoA, .ref keA, .int (iI nto), .int (iI spo), .int (iI mos)], aI t zA 646 z, aI t spA 646 sp, aI t svA 3876 sv, aI t soA 1292 so, aZ t ikA 2 ik, aI t txA 60 tx, aI t viA 120 vi, aI t srA 120 sr, aI t frA 122 fr, aI t toA 122 to, aI t hoA 31 ho, aI t keA 31 ke] := by
    intro thr nvi low high z vi x2 s0 hv
    unfold wp_X5_tree_35 at hv
    refine V_istore_n hc dX5_tree_35 [(3, .int (iI s0)), (0, .ref hM), (2, .int (iI x2))] (by decide) rfl ?_
    refine V_iload_n hc dX5_tree_36 2 rfl ?_
    obtain ⟨hr9, hs0, hs1, hs2, hs3, hs4, hs5, hsd⟩ := hv
    by_cases e0 : x2 = 0
    · have hv := hs0 e0
      refine V_tableIn (off := 39) (tgt := 76) hc dX5_tree_37 hr9 (by omega) (by omega) (by rw [e0]; rfl) (by decide) ?_
      refine V_aload_n hc dX5_tree_76 1 rfl ?_
      refine V_get (C := RX5) (T := TX5) (N := 21) hc i_X5_tree_5 0 rfl rfl 0 (by decide) m_X5_tree_7 rfl dX5_tree_77 ?_
      refine V_iload_n hc dX5_tree_80 0 rfl ?_
      refine V_iald hc 1 rfl (by decide) hv dX5_tree_81 (fun hv => ?_)
      exact V_iret hc hr (thr, nvi, low, high, vi) hv rfl dX5_tree_82
    by_cases e1 : x2 = 1
    · have hv := hs1 e1
      refine V_tableIn (off := 46) (tgt := 83) hc dX5_tree_37 hr9 (by omega) (by omega) (by rw [e1]; rfl) (by decide) ?_
      refine V_aload_n hc dX5_tree_83 1 rfl ?_
      refine V_iload_n hc dX5_tree_84 0 rfl ?_
      refine V_callVI (As := [.int (iI s0)]) hc (wc := [oB hM 5 [.ref zA, .ref spA, .ref svA, .int (iI nsv), .ref soA, .ref ikA, .ref txA, .int (iI len), .int (iI thr), .int (iI nvi), .ref viA, .int (iI low), .int (iI high), .ref srA, .ref frA, .ref toA, .ref hoA, .ref keA, .int (iI nto), .int (iI spo), .int (iI mos)], aI t zA 646 z, aI t spA 646 sp, aI t svA 3876 sv, aI t soA 1292 so, aZ t ikA 2 ik, aI t txA 60 tx, aI t viA 120 vi, aI t srA 120 sr, aI t frA 122 fr, aI t toA 122 to, aI t hoA 31 ho, aI t keA 31 ke]) (wr := []) (pmI [0, 1, 2, 3, 4, 5, 6, 7, 8, 9, 10, 11, 12] 13 rfl (by decide +kernel) rfl) rfl rfl (met_X5_presentIn l D t hM zA spA svA soA ikA txA viA srA frA toA hoA keA nsv len thr nvi low high nto spo mos z sp sv so ik tx vi sr fr to ho ke s0 _ hv) rfl gX5_tree_X5_presentIn rfl ⟨rfl, rfl⟩ ok_X5_presentIn (by decide) (Nat.le_of_ble_eq_true rfl) dX5_tree_85 (by decide) (fun r_3 _ hv => ?_)
      try dsimp only at hv
      refine V_perm (ws1 := [oB hM 5 [.ref zA, .ref spA, .ref svA, .int (iI nsv), .ref soA, .ref ikA, .ref txA, .int (iI len), .int (iI thr), .int (iI nvi), .ref viA, .int (iI low), .int (iI high), .ref srA, .ref frA, .ref toA, .ref hoA, .ref keA, .int (iI nto), .int (iI spo), .int (iI mos)], aI t zA 646 z, aI t spA 646 sp, aI t svA 3876 sv, aI t soA 1292 so, aZ t ikA 2 ik, aI t txA 60 tx, aI t viA 120 vi, aI t srA 120 sr, aI t frA 122 fr, aI t toA 122 to, aI t hoA 31 ho, aI t keA 31 ke]) (pmI [0, 1, 2, 3, 4, 5, 6, 7, 8, 9, 10, 11, 12] 13 rfl (by decide +kernel) rfl) ?_
      exact V_iret hc hr (thr, nvi, low, high, vi) hv rfl dX5_tree_88
    by_cases e2 : x2 = 2
    · have hv := hs2 e2
      refine V_tableIn (off := 52) (tgt := 89) hc dX5_tree_37 hr9 (by omega) (by omega) (by rw [e2]; rfl) (by decide) ?_
      refine V_aload_n hc dX5_tree_89 1 rfl ?_
      refine V_iload_n hc dX5_tree_90 0 rfl ?_
      refine V_callVI (As := [.int (iI s0)]) hc (wc := [oB hM 5 [.ref zA, .ref spA, .ref svA, .int (iI nsv), .ref soA, .ref ikA, .ref txA, .int (iI len), .int (iI thr), .int (iI nvi), .ref viA, .int (iI low), .int (iI high), .ref srA, .ref frA, .ref toA, .ref hoA, .ref keA, .int (iI nto), .int (iI spo), .int (iI mos)], aI t zA 646 z, aI t spA 646 sp, aI t svA 3876 sv, aI t soA 1292 so, aZ t ikA 2 ik, aI t txA 60 tx, aI t viA 120 vi, aI t srA 120 sr, aI t frA 122 fr, aI t toA 122 to, aI t hoA 31 ho, aI t keA 31 ke]) (wr := []) (pmI [0, 1, 2, 3, 4, 5, 6, 7, 8, 9, 10, 11, 12] 13 rfl (by decide +kernel) rfl) rfl rfl (met_X5_markedIn l D t hM zA spA svA soA ikA txA viA srA frA toA hoA keA nsv len thr nvi low high nto spo mos z sp sv so ik tx vi sr fr to ho ke s0 _ hv) rfl gX5_tree_X5_markedIn rfl ⟨rfl, rfl⟩ ok_X5_markedIn (by decide) (Nat.le_of_ble_eq_true rfl) dX5_tree_91 (by decide) (fun r_4 _ hv => ?_)
      try dsimp only at hv
      refine V_perm (ws1 := [oB hM 5 [.ref zA, .ref spA, .ref svA, .int (iI nsv), .ref soA, .ref ikA, .ref txA, .int (iI len), .int (iI thr), .int (iI nvi), .ref viA, .int (iI low), .int (iI high), .ref srA, .ref frA, .ref toA, .ref hoA, .ref keA, .int (iI nto), .int (iI spo), .int (iI mos)], aI t zA 646 z, aI t spA 646 sp, aI t svA 3876 sv, aI t soA 1292 so, aZ t ikA 2 ik, aI t txA 60 tx, aI t viA 120 vi, aI t srA 120 sr, aI t frA 122 fr, aI t toA 122 to, aI t hoA 31 ho, aI t keA 31 ke]) (pmI [0, 1, 2, 3, 4, 5, 6, 7, 8, 9, 10, 11, 12] 13 rfl (by decide +kernel) rfl) ?_
      exact V_iret hc hr (thr, nvi, low, high, vi) hv rfl dX5_tree_94
    by_cases e3 : x2 = 3
    · have hv := hs3 e3
      refine V_tableIn (off := 58) (tgt := 95) hc dX5_tree_37 hr9 (by omega) (by omega) (by rw [e3]; rfl) (by decide) ?_
      refine V_aload_n hc dX5_tree_95 1 rfl ?_
      refine V_iload_n hc dX5_tree_96 0 rfl ?_
      refine V_callVI (As := [.int (iI s0)]) hc (wc := [oB hM 5 [.ref zA, .ref spA, .ref svA, .int (iI nsv), .ref soA, .ref ikA, .ref txA, .int (iI len), .int (iI thr), .int (iI nvi), .ref viA, .int (iI low), .int (iI high), .ref srA, .ref frA, .ref toA, .ref hoA, .ref keA, .int (iI nto), .int (iI spo), .int (iI mos)], aI t zA 646 z, aI t spA 646 sp, aI t svA 3876 sv, aI t soA 1292 so, aZ t ikA 2 ik, aI t txA 60 tx, aI t viA 120 vi, aI t srA 120 sr, aI t frA 122 fr, aI t toA 122 to, aI t hoA 31 ho, aI t keA 31 ke]) (wr := []) (pmI [0, 1, 2, 3, 4, 5, 6, 7, 8, 9, 10, 11, 12] 13 rfl (by decide +kernel) rfl) rfl rfl (met_X5_depthIn l D t hM zA spA svA soA ikA txA viA srA frA toA hoA keA nsv len thr nvi low high nto spo mos z sp sv so ik tx vi sr fr to ho ke s0 _ hv) rfl gX5_tree_X5_depthIn rfl ⟨rfl, rfl⟩ ok_X5_depthIn (by decide) (Nat.le_of_ble_eq_true rfl) dX5_tree_97 (by decide) (fun r_5 u9 hv => ?_)
      obtain ⟨nvi_5, low_5, high_5, vi_5⟩ := u9
      try dsimp only at hv
      refine V_perm (ws1 := [oB hM 5 [.ref zA, .ref spA, .ref svA, .int (iI nsv), .ref soA, .ref ikA, .ref txA, .int (iI len), .int (iI thr), .int (iI nvi_5), .ref viA, .int (iI low_5), .int (iI high_5), .ref srA, .ref frA, .ref toA, .ref hoA, .ref keA, .int (iI nto), .int (iI spo), .int (iI mos)], aI t zA 646 z, aI t spA 646 sp, aI t svA 3876 sv, aI t soA 1292 so, aZ t ikA 2 ik, aI t txA 60 tx, aI t viA 120 vi_5, aI t srA 120 sr, aI t frA 122 fr, aI t toA 122 to, aI t hoA 31 ho, aI t keA 31 ke]) (pmI [0, 1, 2, 3, 4, 5, 6, 7, 8, 9, 10, 11, 12] 13 rfl (by decide +kernel) rfl) ?_
      exact V_iret hc hr (thr, nvi_5, low_5, high_5, vi_5) hv rfl dX5_tree_100
    by_cases e4 : x2 = 4
    · have hv := hs4 e4
      refine V_tableIn (off := 64) (tgt := 101) hc dX5_tree_37 hr9 (by omega) (by omega) (by rw [e4]; rfl) (by decide) ?_
      refine V_aload_n hc dX5_tree_101 1 rfl ?_
      refine V_iload_n hc dX5_tree_102 0 rfl ?_
      refine V_callVI (As := [.int (iI s0)]) hc (wc := [oB hM 5 [.ref zA, .ref spA, .ref svA, .int (iI nsv), .ref soA, .ref ikA, .ref txA, .int (iI len), .int (iI thr), .int (iI nvi), .ref viA, .int (iI low), .int (iI high), .ref srA, .ref frA, .ref toA, .ref hoA, .ref keA, .int (iI nto), .int (iI spo), .int (iI mos)], aI t zA 646 z, aI t spA 646 sp, aI t svA 3876 sv, aI t soA 1292 so, aZ t ikA 2 ik, aI t txA 60 tx, aI t viA 120 vi, aI t srA 120 sr, aI t frA 122 fr, aI t toA 122 to, aI t hoA 31 ho, aI t keA 31 ke]) (wr := []) (pmI [0, 1, 2, 3, 4, 5, 6, 7, 8, 9, 10, 11, 12] 13 rfl (by decide +kernel) rfl) rfl rfl (met_X5_depths l D t hM zA spA svA soA ikA txA viA srA frA toA hoA keA nsv len thr nvi low high nto spo mos z sp sv so ik tx vi sr fr to ho ke s0 _ hv) rfl gX5_tree_X5_depths rfl ⟨rfl, rfl⟩ ok_X5_depths (by decide) (Nat.le_of_ble_eq_true rfl) dX5_tree_103 (by decide) (fun r_6 u9 hv => ?_)
      obtain ⟨nvi_6, low_6, high_6, vi_6⟩ := u9
      try dsimp only at hv
      refine V_perm (ws1 := [oB hM 5 [.ref zA, .ref spA, .ref svA, .int (iI nsv), .ref soA, .ref ikA, .ref txA, .int (iI len), .int (iI thr), .int (iI nvi_6), .ref viA, .int (iI low_6), .int (iI high_6), .ref srA, .ref frA, .ref toA, .ref hoA, .ref keA, .int (iI nto), .int (iI spo), .int (iI mos)], aI t zA 646 z, aI t spA 646 sp, aI t svA 3876 sv, aI t soA 1292 so, aZ t ikA 2 ik, aI t txA 60 tx, aI t viA 120 vi_6, aI t srA 120 sr, aI t frA 122 fr, aI t toA 122 to, aI t hoA 31 ho, aI t keA 31 ke]) (pmI [0, 1, 2, 3, 4, 5, 6, 7, 8, 9, 10, 11, 12] 13 rfl (by decide +kernel) rfl) ?_
      exact V_iret hc hr (thr, nvi_6, low_6, high_6, vi_6) hv rfl dX5_tree_106
    by_cases e5 : x2 = 5
    · have hv := hs5 e5
      refine V_tableIn (off := 70) (tgt := 107) hc dX5_tree_37 hr9 (by omega) (by omega) (by rw [e5]; rfl) (by decide) ?_
      refine V_aload_n hc dX5_tree_107 1 rfl ?_
      refine V_iload_n hc dX5_tree_108 0 rfl ?_
      refine V_callVI (As := [.int (iI s0)]) hc (wc := [oB hM 5 [.ref zA, .ref spA, .ref svA, .int (iI nsv), .ref soA, .ref ikA, .ref txA, .int (iI len), .int (iI thr), .int (iI nvi), .ref viA, .int (iI low), .int (iI high), .ref srA, .ref frA, .ref toA, .ref hoA, .ref keA, .int (iI nto), .int (iI spo), .int (iI mos)], aI t zA 646 z, aI t spA 646 sp, aI t svA 3876 sv, aI t soA 1292 so, aZ t ikA 2 ik, aI t txA 60 tx, aI t viA 120 vi, aI t srA 120 sr, aI t frA 122 fr, aI t toA 122 to, aI t hoA 31 ho, aI t keA 31 ke]) (wr := []) (pmI [0, 1, 2, 3, 4, 5, 6, 7, 8, 9, 10, 11, 12] 13 rfl (by decide +kernel) rfl) rfl rfl (met_X5_leaves l D t hM zA spA svA soA ikA txA viA srA frA toA hoA keA nsv len thr nvi low high nto spo mos z sp sv so ik tx vi sr fr to ho ke s0 _ hv) rfl gX5_tree_X5_leaves rfl ⟨rfl, rfl⟩ ok_X5_leaves (by decide) (Nat.le_of_ble_eq_true rfl) dX5_tree_109 (by decide) (fun r_7 u9 hv => ?_)
      obtain ⟨nvi_7, low_7, high_7, vi_7⟩ := u9
      try dsimp only at hv
      refine V_perm (ws1 := [oB hM 5 [.ref zA, .ref spA, .ref svA, .int (iI nsv), .ref soA, .ref ikA, .ref txA, .int (iI len), .int (iI thr), .int (iI nvi_7), .ref viA, .int (iI low_7), .int (iI high_7), .ref srA, .ref frA, .ref toA, .ref hoA, .ref keA, .int (iI nto), .int (iI spo), .int (iI mos)], aI t zA 646 z, aI t spA 646 sp, aI t svA 3876 sv, aI t soA 1292 so, aZ t ikA 2 ik, aI t txA 60 tx, aI t viA 120 vi_7, aI t srA 120 sr, aI t frA 122 fr, aI t toA 122 to, aI t hoA 31 ho, aI t keA 31 ke]) (pmI [0, 1, 2, 3, 4, 5, 6, 7, 8, 9, 10, 11, 12] 13 rfl (by decide +kernel) rfl) ?_
      exact V_iret hc hr (thr, nvi_7, low_7, high_7, vi_7) hv rfl dX5_tree_112
    have hv := hsd (by omega)
    refine V_tableOut (tgt := 113) hc dX5_tree_37 hr9 (by omega) (by decide) ?_
    refine V_aload_n hc dX5_tree_113 1 rfl ?_
    refine V_iload_n hc dX5_tree_114 0 rfl ?_
    refine V_callVI (As := [.int (iI s0)]) hc (wc := [oB hM 5 [.ref zA, .ref spA, .ref svA, .int (iI nsv), .ref soA, .ref ikA, .ref txA, .int (iI len), .int (iI thr), .int (iI nvi), .ref viA, .int (iI low), .int (iI high), .ref srA, .ref frA, .ref toA, .ref hoA, .ref keA, .int (iI nto), .int (iI spo), .int (iI mos)], aI t zA 646 z, aI t spA 646 sp, aI t svA 3876 sv, aI t soA 1292 so, aZ t ikA 2 ik, aI t txA 60 tx, aI t viA 120 vi, aI t srA 120 sr, aI t frA 122 fr, aI t toA 122 to, aI t hoA 31 ho, aI t keA 31 ke]) (wr := []) (pmI [0, 1, 2, 3, 4, 5, 6, 7, 8, 9, 10, 11, 12] 13 rfl (by decide +kernel) rfl) rfl rfl (met_X5_presentIn l D t hM zA spA svA soA ikA txA viA srA frA toA hoA keA nsv len thr nvi low high nto spo mos z sp sv so ik tx vi sr fr to ho ke s0 _ hv) rfl gX5_tree_X5_presentIn rfl ⟨rfl, rfl⟩ ok_X5_presentIn (by decide) (Nat.le_of_ble_eq_true rfl) dX5_tree_115 (by decide) (fun r_8 _ hv => ?_)
    try dsimp only at hv
    refine V_perm (ws1 := [oB hM 5 [.ref zA, .ref spA, .ref svA, .int (iI nsv), .ref soA, .ref ikA, .ref txA, .int (iI len), .int (iI thr), .int (iI nvi), .ref viA, .int (iI low), .int (iI high), .ref srA, .ref frA, .ref toA, .ref hoA, .ref keA, .int (iI nto), .int (iI spo), .int (iI mos)], aI t zA 646 z, aI t spA 646 sp, aI t svA 3876 sv, aI t soA 1292 so, aZ t ikA 2 ik, aI t txA 60 tx, aI t viA 120 vi, aI t srA 120 sr, aI t frA 122 fr, aI t toA 122 to, aI t hoA 31 ho, aI t keA 31 ke]) (pmI [0, 1, 2, 3, 4, 5, 6, 7, 8, 9, 10, 11, 12] 13 rfl (by decide +kernel) rfl) ?_
    refine V_callSI (As := [.int (iI r_8)]) hc (wc := []) (wr := [oB hM 5 [.ref zA, .ref spA, .ref svA, .int (iI nsv), .ref soA, .ref ikA, .ref txA, .int (iI len), .int (iI thr), .int (iI nvi), .ref viA, .int (iI low), .int (iI high), .ref srA, .ref frA, .ref toA, .ref hoA, .ref keA, .int (iI nto), .int (iI spo), .int (iI mos)], aI t zA 646 z, aI t spA 646 sp, aI t svA 3876 sv, aI t soA 1292 so, aZ t ikA 2 ik, aI t txA 60 tx, aI t viA 120 vi, aI t srA 120 sr, aI t frA 122 fr, aI t toA 122 to, aI t hoA 31 ho, aI t keA 31 ke]) (pmI [0, 1, 2, 3, 4, 5, 6, 7, 8, 9, 10, 11, 12] 13 rfl (by decide +kernel) rfl) (met_X5_leastDepth l D t r_8 _ hv) rfl gX5_tree_X5_leastDepth rfl ⟨rfl, rfl⟩ ok_X5_leastDepth (by decide) (Nat.le_of_ble_eq_true rfl) dX5_tree_118 (by decide) (fun r_9 _ hv => ?_)
    try dsimp only at hv
    refine V_perm (ws1 := [oB hM 5 [.ref zA, .ref spA, .ref svA, .int (iI nsv), .ref soA, .ref ikA, .ref txA, .int (iI len), .int (iI thr), .int (iI nvi), .ref viA, .int (iI low), .int (iI high), .ref srA, .ref frA, .ref toA, .ref hoA, .ref keA, .int (iI nto), .int (iI spo), .int (iI mos)], aI t zA 646 z, aI t spA 646 sp, aI t svA 3876 sv, aI t soA 1292 so, aZ t ikA 2 ik, aI t txA 60 tx, aI t viA 120 vi, aI t srA 120 sr, aI t frA 122 fr, aI t toA 122 to, aI t hoA 31 ho, aI t keA 31 ke]) (pmI [0, 1, 2, 3, 4, 5, 6, 7, 8, 9, 10, 11, 12] 13 rfl (by decide +kernel) rfl) ?_
    exact V_iret hc hr (thr, nvi, low, high, vi) hv rfl dX5_tree_121
  have C_16 : ∀ (thr : Int) (nvi : Int) (low : Int) (high : Int) (z : Nat → Int) (vi : Nat → Int) (x1 : Int) (x2 : Int) (s0 : Int), wp_X5_tree_16 thr nvi low high z vi x1 x2 s0 Q → V p l e rm_X5_tree s m args below meth c D A 4 0 0 (MQ below (QI D A (W1_X5_tree t hM zA spA svA soA ikA txA viA srA frA toA hoA keA nsv len nto spo mos z sp sv so ik tx sr fr to ho ke) (po_X5_tree Q)) args s 0 0 A) 16 [(0, .ref hM), (1, .int (iI x1)), (2, .int (iI x2))] [.int (iI s0), .ref hM] [oB hM 5 [.ref zA, .ref spA, .ref svA, .int (iI nsv), .ref soA, .ref ikA, .ref txA, .int (iI len), .int (iI thr), .int (iI nvi), .ref viA, .int (iI low), .int (iI high), .ref srA, .ref frA, .ref toA, .ref hoA, .ref keA, .int (iI nto), .int (iI spo), .int (iI mos)], aI t zA 646 z, aI t spA 646 sp, aI t svA 3876 sv, aI t soA 1292 so, aZ t ikA 2 ik, aI t txA 60 tx, aI t viA 120 vi, aI t srA 120 sr, aI t frA 122 fr, aI t toA 122 to, aI t hoA 31 ho, aI t keA 31 ke] := by
    intro thr nvi low high z vi x1 x2 s0 hv
    unfold wp_X5_tree_16 at hv
    refine V_callVI (As := [.int (iI s0)]) hc (wc := [oB hM 5 [.ref zA, .ref spA, .ref svA, .int (iI nsv), .ref soA, .ref ikA, .ref txA, .int (iI len), .int (iI thr), .int (iI nvi), .ref viA, .int (iI low), .int (iI high), .ref srA, .ref frA, .ref toA, .ref hoA, .ref keA, .int (iI nto), .int (iI spo), .int (iI mos)], aI t zA 646 z, aI t spA 646 sp, aI t svA 3876 sv, aI t soA 1292 so, aZ t ikA 2 ik, aI t txA 60 tx, aI t viA 120 vi, aI t srA 120 sr, aI t frA 122 fr, aI t toA 122 to, aI t hoA 31 ho, aI t keA 31 ke]) (wr := []) (pmI [0, 1, 2, 3, 4, 5, 6, 7, 8, 9, 10, 11, 12] 13 rfl (by decide +kernel) rfl) rfl rfl (met_X5_refused l D t hM zA spA svA soA ikA txA viA srA frA toA hoA keA nsv len thr nvi low high nto spo mos z sp sv so ik tx vi sr fr to ho ke s0 _ hv) rfl gX5_tree_X5_refused rfl ⟨rfl, rfl⟩ ok_X5_refused (by decide) (Nat.le_of_ble_eq_true rfl) dX5_tree_16 (by decide) (fun r_2 u9 hv => ?_)
    obtain ⟨thr_2, h9⟩ : ∃ z, z = u9 := ⟨_, rfl⟩
    subst h9
    try dsimp only at hv
    refine V_perm (ws1 := [oB hM 5 [.ref zA, .ref spA, .ref svA, .int (iI nsv), .ref soA, .ref ikA, .ref txA, .int (iI len), .int (iI thr_2), .int (iI nvi), .ref viA, .int (iI low), .int (iI high), .ref srA, .ref frA, .ref toA, .ref hoA, .ref keA, .int (iI nto), .int (iI spo), .int (iI mos)], aI t zA 646 z, aI t spA 646 sp, aI t svA 3876 sv, aI t soA 1292 so, aZ t ikA 2 ik, aI t txA 60 tx, aI t viA 120 vi, aI t srA 120 sr, aI t frA 122 fr, aI t toA 122 to, aI t hoA 31 ho, aI t keA 31 ke]) (pmI [0, 1, 2, 3, 4, 5, 6, 7, 8, 9, 10, 11, 12] 13 rfl (by decide +kernel) rfl) ?_
    refine V_if_eq (tgt := 24) hc dX5_tree_19 (by decide) hv (fun hv => ?_) (fun hv => ?_)
    · refine V_iload_n hc dX5_tree_24 1 rfl ?_
      refine V_if_eq (tgt := 34) hc dX5_tree_25 (by decide) hv (fun hv => ?_) (fun hv => ?_)
      · refine V_iconst hc dX5_tree_34 ?_
        refine V_lv [0, 2] [(0, .ref hM), (2, .int (iI x2))] rfl ?_
        exact C_35 thr_2 nvi low high z vi x2 0 hv
      · refine V_sipush hc dX5_tree_28 (by decide) ?_
        refine V_goto (tgt := 35) hc dX5_tree_31 (by decide) ?_
        refine V_lv [0, 2] [(0, .ref hM), (2, .int (iI x2))] rfl ?_
        exact C_35 thr_2 nvi low high z vi x2 241 hv
    · refine V_iconst hc dX5_tree_22 ?_
      exact V_iret hc hr (thr_2, nvi, low, high, vi) hv rfl dX5_tree_23
  refine V_lv [0, 1, 2] [(0, .ref hM), (1, .int (iI x1)), (2, .int (iI x2))] rfl ?_
  unfold wp_X5_tree at hv
  refine V_aload_n hc dX5_tree_0 0 rfl ?_
  refine V_iload_n hc dX5_tree_1 2 rfl ?_
  refine V_iconst hc dX5_tree_2 ?_
  refine V_bipush hc dX5_tree_3 (by decide) ?_
  refine V_callSI (As := [.int (iI x2), .int (iI 0), .int (iI 6)]) hc (wc := []) (wr := [oB hM 5 [.ref zA, .ref spA, .ref svA, .int (iI nsv), .ref soA, .ref ikA, .ref txA, .int (iI len), .int (iI thr), .int (iI nvi), .ref viA, .int (iI low), .int (iI high), .ref srA, .ref frA, .ref toA, .ref hoA, .ref keA, .int (iI nto), .int (iI spo), .int (iI mos)], aI t zA 646 z, aI t spA 646 sp, aI t svA 3876 sv, aI t soA 1292 so, aZ t ikA 2 ik, aI t txA 60 tx, aI t viA 120 vi, aI t srA 120 sr, aI t frA 122 fr, aI t toA 122 to, aI t hoA 31 ho, aI t keA 31 ke]) (pmI [0, 1, 2, 3, 4, 5, 6, 7, 8, 9, 10, 11, 12] 13 rfl (by decide +kernel) rfl) (met_X5_in l D t x2 0 6 _ hv) rfl gX5_tree_X5_in rfl ⟨rfl, rfl⟩ ok_X5_in (by decide) (Nat.le_of_ble_eq_true rfl) dX5_tree_5 (by decide) (fun r_1 _ hv => ?_)
  try dsimp only at hv
  refine V_perm (ws1 := [oB hM 5 [.ref zA, .ref spA, .ref svA, .int (iI nsv), .ref soA, .ref ikA, .ref txA, .int (iI len), .int (iI thr), .int (iI nvi), .ref viA, .int (iI low), .int (iI high), .ref srA, .ref frA, .ref toA, .ref hoA, .ref keA, .int (iI nto), .int (iI spo), .int (iI mos)], aI t zA 646 z, aI t spA 646 sp, aI t svA 3876 sv, aI t soA 1292 so, aZ t ikA 2 ik, aI t txA 60 tx, aI t viA 120 vi, aI t srA 120 sr, aI t frA 122 fr, aI t toA 122 to, aI t hoA 31 ho, aI t keA 31 ke]) (pmI [0, 1, 2, 3, 4, 5, 6, 7, 8, 9, 10, 11, 12] 13 rfl (by decide +kernel) rfl) ?_
  refine V_if_eq (tgt := 15) hc dX5_tree_8 (by decide) hv (fun hv => ?_) (fun hv => ?_)
  · refine V_iconst hc dX5_tree_15 ?_
    exact C_16 thr nvi low high z vi x1 x2 1 hv
  · refine V_iconst hc dX5_tree_11 ?_
    refine V_goto (tgt := 16) hc dX5_tree_12 (by decide) ?_
    exact C_16 thr nvi low high z vi x1 x2 0 hv
abbrev W1_X5_inOneAlone (t : Nat → ClassId) (hM : Nat) (zA : Nat) (spA : Nat) (svA : Nat) (soA : Nat) (ikA : Nat) (txA : Nat) (viA : Nat) (srA : Nat) (frA : Nat) (toA : Nat) (hoA : Nat) (keA : Nat) (nsv : Int) (len : Int) (thr : Int) (nvi : Int) (low : Int) (high : Int) (nto : Int) (spo : Int) (mos : Int) (z : Nat → Int) (sp : Nat → Int) (sv : Nat → Int) (so : Nat → Int) (ik : Nat → Int) (tx : Nat → Int) (vi : Nat → Int) (sr : Nat → Int) (fr : Nat → Int) (to : Nat → Int) (ho : Nat → Int) (ke : Nat → Int) (u : Unit) : va_W := [oB hM 5 [.ref zA, .ref spA, .ref svA, .int (iI nsv), .ref soA, .ref ikA, .ref txA, .int (iI len), .int (iI thr), .int (iI nvi), .ref viA, .int (iI low), .int (iI high), .ref srA, .ref frA, .ref toA, .ref hoA, .ref keA, .int (iI nto), .int (iI spo), .int (iI mos)], aI t zA 646 z, aI t spA 646 sp, aI t svA 3876 sv, aI t soA 1292 so, aZ t ikA 2 ik, aI t txA 60 tx, aI t viA 120 vi, aI t srA 120 sr, aI t frA 122 fr, aI t toA 122 to, aI t hoA 31 ho, aI t keA 31 ke]
abbrev po_X5_inOneAlone (Q : Int → Prop) (r : Int) (u : Unit) : Prop := Q r
abbrev rm_X5_inOneAlone : Room := { frames := 2, cells := 0, slots := 0, locals := 47 }
def wp_X5_inOneAlone_4 (z : Nat → Int) (Q : Int → Prop) (K_4 : Int → Int → Prop) (x1 : Int) (x2 : Int) : Prop := inR x2 ∧ (x2 ≥ 500 → Q x1) ∧ (¬ (x2 ≥ 500) → wp_X5_isPresent z 0 x2 (fun r_1 => wp_X5_isPresent z 241 x2 (fun r_2 => inR r_1 ∧ inR r_2 ∧ (r_1 = r_2 → K_4 (x1 + 0) (x2 + 1)) ∧ (¬ (r_1 = r_2) → K_4 (x1 + 1) (x2 + 1)))))
def wp_X5_inOneAlone (z : Nat → Int) (Q : Int → Prop) : Prop := (∃ n, lq2 (wp_X5_inOneAlone_4 z Q) n 0 0)
theorem ok_X5_inOneAlone : yX5_inOneAlone.cls = RX5 ∧ yX5_inOneAlone.cls ≠ "java/lang/invoke/MethodHandle" ∧ yX5_inOneAlone.cls ≠ "java/lang/invoke/VarHandle" ∧ (parseMethodDescriptor yX5_inOneAlone.desc).map (fun d => d.parameters.length) = some 0 := by decide +kernel
set_option maxHeartbeats 4000000 in
set_option maxRecDepth 100000 in
theorem met_X5_inOneAlone (l : Launch) (D : va_G) (t : Nat → ClassId) (hM : Nat) (zA : Nat) (spA : Nat) (svA : Nat) (soA : Nat) (ikA : Nat) (txA : Nat) (viA : Nat) (srA : Nat) (frA : Nat) (toA : Nat) (hoA : Nat) (keA : Nat) (nsv : Int) (len : Int) (thr : Int) (nvi : Int) (low : Int) (high : Int) (nto : Int) (spo : Int) (mos : Int) (z : Nat → Int) (sp : Nat → Int) (sv : Nat → Int) (so : Nat → Int) (ik : Nat → Int) (tx : Nat → Int) (vi : Nat → Int) (sr : Nat → Int) (fr : Nat → Int) (to : Nat → Int) (ho : Nat → Int) (ke : Nat → Int) (Q : Int → Prop) (hv : wp_X5_inOneAlone z Q) : MI l D t yX5_inOneAlone wsX5_inOneAlone rm_X5_inOneAlone [.ref hM] [oB hM 5 [.ref zA, .ref spA, .ref svA, .int (iI nsv), .ref soA, .ref ikA, .ref txA, .int (iI len), .int (iI thr), .int (iI nvi), .ref viA, .int (iI low), .int (iI high), .ref srA, .ref frA, .ref toA, .ref hoA, .ref keA, .int (iI nto), .int (iI spo), .int (iI mos)], aI t zA 646 z, aI t spA 646 sp, aI t svA 3876 sv, aI t soA 1292 so, aZ t ikA 2 ik, aI t txA 60 tx, aI t viA 120 vi, aI t srA 120 sr, aI t frA 122 fr, aI t toA 122 to, aI t hoA 31 ho, aI t keA 31 ke] (W1_X5_inOneAlone t hM zA spA svA soA ikA txA viA srA frA toA hoA keA nsv len thr nvi low high nto spo mos z sp sv so ik tx vi sr fr to ho ke) (po_X5_inOneAlone Q) 0 0 := by
  refine M_ofi (cc := cX5_inOneAlone) (nL := 3) (by decide) rfl (Nat.le_of_ble_eq_true rfl) ?_
  intro p e s m args below meth c A hc hr
  have L_4 : ∀ (z : Nat → Int) (n9 : Nat) (x1 : Int) (x2 : Int), lq2 (wp_X5_inOneAlone_4 z Q) n9 x1 x2 → V p l e rm_X5_inOneAlone s m args below meth c D A 3 0 0 (MQ below (QI D A (W1_X5_inOneAlone t hM zA spA svA soA ikA txA viA srA frA toA hoA keA nsv len thr nvi low high nto spo mos z sp sv so ik tx vi sr fr to ho ke) (po_X5_inOneAlone Q)) args s 0 0 A) 4 [(0, .ref hM), (1, .int (iI x1)), (2, .int (iI x2))] [] [oB hM 5 [.ref zA, .ref spA, .ref svA, .int (iI nsv), .ref soA, .ref ikA, .ref txA, .int (iI len), .int (iI thr), .int (iI nvi), .ref viA, .int (iI low), .int (iI high), .ref srA, .ref frA, .ref toA, .ref hoA, .ref keA, .int (iI nto), .int (iI spo), .int (iI mos)], aI t zA 646 z, aI t spA 646 sp, aI t svA 3876 sv, aI t soA 1292 so, aZ t ikA 2 ik, aI t txA 60 tx, aI t viA 120 vi, aI t srA 120 sr, aI t frA 122 fr, aI t toA 122 to, aI t hoA 31 ho, aI t keA 31 ke] := by
    intro z n9
    induction n9 with
    | zero =>
      intro x1 x2 hv
      exact hv.elim
    | succ n9 ih =>
      intro x1 x2 hv
      have hv : wp_X5_inOneAlone_4 z Q (lq2 (wp_X5_inOneAlone_4 z Q) n9) x1 x2 := hv
      generalize lq2 (wp_X5_inOneAlone_4 z Q) n9 = K_4 at hv ih
      have hK_4 := ih
      unfold wp_X5_inOneAlone_4 at hv
      refine V_iload_n hc dX5_inOneAlone_4 2 rfl ?_
      refine V_sipush hc dX5_inOneAlone_5 (by decide) ?_
      refine V_icmp_ge (tgt := 42) hc dX5_inOneAlone_8 (by decide) ⟨hv.1, by decide, hv.2⟩ (fun hv => ?_) (fun hv => ?_)
      · refine V_iload_n hc dX5_inOneAlone_42 1 rfl ?_
        exact V_iret hc hr () hv rfl dX5_inOneAlone_43
      · refine V_iload_n hc dX5_inOneAlone_11 1 rfl ?_
        refine V_aload_n hc dX5_inOneAlone_12 0 rfl ?_
        refine V_iconst hc dX5_inOneAlone_13 ?_
        refine V_iload_n hc dX5_inOneAlone_14 2 rfl ?_
        refine V_callVI (As := [.int (iI 0), .int (iI x2)]) hc (wc := [oB hM 5 [.ref zA, .ref spA, .ref svA, .int (iI nsv), .ref soA, .ref ikA, .ref txA, .int (iI len), .int (iI thr), .int (iI nvi), .ref viA, .int (iI low), .int (iI high), .ref srA, .ref frA, .ref toA, .ref hoA, .ref keA, .int (iI nto), .int (iI spo), .int (iI mos)], aI t zA 646 z, aI t spA 646 sp, aI t svA 3876 sv, aI t soA 1292 so, aZ t ikA 2 ik, aI t txA 60 tx, aI t viA 120 vi, aI t srA 120 sr, aI t frA 122 fr, aI t toA 122 to, aI t hoA 31 ho, aI t keA 31 ke]) (wr := []) (pmI [0, 1, 2, 3, 4, 5, 6, 7, 8, 9, 10, 11, 12] 13 rfl (by decide +kernel) rfl) rfl rfl (met_X5_isPresent l D t hM zA spA svA soA ikA txA viA srA frA toA hoA keA nsv len thr nvi low high nto spo mos z sp sv so ik tx vi sr fr to ho ke 0 x2 _ hv) rfl gX5_inOneAlone_X5_isPresent rfl ⟨rfl, rfl⟩ ok_X5_isPresent (by decide) (Nat.le_of_ble_eq_true rfl) dX5_inOneAlone_15 (by decide) (fun r_1 _ hv => ?_)
        try dsimp only at hv
        refine V_perm (ws1 := [oB hM 5 [.ref zA, .ref spA, .ref svA, .int (iI nsv), .ref soA, .ref ikA, .ref txA, .int (iI len), .int (iI thr), .int (iI nvi), .ref viA, .int (iI low), .int (iI high), .ref srA, .ref frA, .ref toA, .ref hoA, .ref keA, .int (iI nto), .int (iI spo), .int (iI mos)], aI t zA 646 z, aI t spA 646 sp, aI t svA 3876 sv, aI t soA 1292 so, aZ t ikA 2 ik, aI t txA 60 tx, aI t viA 120 vi, aI t srA 120 sr, aI t frA 122 fr, aI t toA 122 to, aI t hoA 31 ho, aI t keA 31 ke]) (pmI [0, 1, 2, 3, 4, 5, 6, 7, 8, 9, 10, 11, 12] 13 rfl (by decide +kernel) rfl) ?_
        refine V_aload_n hc dX5_inOneAlone_18 0 rfl ?_
        refine V_sipush hc dX5_inOneAlone_19 (by decide) ?_
        refine V_iload_n hc dX5_inOneAlone_22 2 rfl ?_
        refine V_callVI (As := [.int (iI 241), .int (iI x2)]) hc (wc := [oB hM 5 [.ref zA, .ref spA, .ref svA, .int (iI nsv), .ref soA, .ref ikA, .ref txA, .int (iI len), .int (iI thr), .int (iI nvi), .ref viA, .int (iI low), .int (iI high), .ref srA, .ref frA, .ref toA, .ref hoA, .ref keA, .int (iI nto), .int (iI spo), .int (iI mos)], aI t zA 646 z, aI t spA 646 sp, aI t svA 3876 sv, aI t soA 1292 so, aZ t ikA 2 ik, aI t txA 60 tx, aI t viA 120 vi, aI t srA 120 sr, aI t frA 122 fr, aI t toA 122 to, aI t hoA 31 ho, aI t keA 31 ke]) (wr := []) (pmI [0, 1, 2, 3, 4, 5, 6, 7, 8, 9, 10, 11, 12] 13 rfl (by decide +kernel) rfl) rfl rfl (met_X5_isPresent l D t hM zA spA svA soA ikA txA viA srA frA toA hoA keA nsv len thr nvi low high nto spo mos z sp sv so ik tx vi sr fr to ho ke 241 x2 _ hv) rfl gX5_inOneAlone_X5_isPresent rfl ⟨rfl, rfl⟩ ok_X5_isPresent (by decide) (Nat.le_of_ble_eq_true rfl) dX5_inOneAlone_23 (by decide) (fun r_2 _ hv => ?_)
        try dsimp only at hv
        refine V_perm (ws1 := [oB hM 5 [.ref zA, .ref spA, .ref svA, .int (iI nsv), .ref soA, .ref ikA, .ref txA, .int (iI len), .int (iI thr), .int (iI nvi), .ref viA, .int (iI low), .int (iI high), .ref srA, .ref frA, .ref toA, .ref hoA, .ref keA, .int (iI nto), .int (iI spo), .int (iI mos)], aI t zA 646 z, aI t spA 646 sp, aI t svA 3876 sv, aI t soA 1292 so, aZ t ikA 2 ik, aI t txA 60 tx, aI t viA 120 vi, aI t srA 120 sr, aI t frA 122 fr, aI t toA 122 to, aI t hoA 31 ho, aI t keA 31 ke]) (pmI [0, 1, 2, 3, 4, 5, 6, 7, 8, 9, 10, 11, 12] 13 rfl (by decide +kernel) rfl) ?_
        refine V_icmp_eq (tgt := 33) hc dX5_inOneAlone_26 (by decide) hv (fun hv => ?_) (fun hv => ?_)
        · refine V_iconst hc dX5_inOneAlone_33 ?_
          refine V_iadd hc dX5_inOneAlone_34 ?_
          refine V_istore_n hc dX5_inOneAlone_35 [(1, .int (iI (x1 + 0))), (0, .ref hM), (2, .int (iI x2))] (by decide) rfl ?_
          refine V_iinc hc dX5_inOneAlone_36 2 rfl [(2, .int (iI (x2 + 1))), (1, .int (iI (x1 + 0))), (0, .ref hM)] (by decide) rfl ?_
          refine V_goto (tgt := 4) hc dX5_inOneAlone_39 (by decide) ?_
          refine V_lv [2, 1, 0] [(0, .ref hM), (1, .int (iI (x1 + 0))), (2, .int (iI (x2 + 1)))] rfl ?_
          exact hK_4 (x1 + 0) (x2 + 1) hv
        · refine V_iconst hc dX5_inOneAlone_29 ?_
          refine V_goto (tgt := 34) hc dX5_inOneAlone_30 (by decide) ?_
          refine V_iadd hc dX5_inOneAlone_34 ?_
          refine V_istore_n hc dX5_inOneAlone_35 [(1, .int (iI (x1 + 1))), (0, .ref hM), (2, .int (iI x2))] (by decide) rfl ?_
          refine V_iinc hc dX5_inOneAlone_36 2 rfl [(2, .int (iI (x2 + 1))), (1, .int (iI (x1 + 1))), (0, .ref hM)] (by decide) rfl ?_
          refine V_goto (tgt := 4) hc dX5_inOneAlone_39 (by decide) ?_
          refine V_lv [2, 1, 0] [(0, .ref hM), (1, .int (iI (x1 + 1))), (2, .int (iI (x2 + 1)))] rfl ?_
          exact hK_4 (x1 + 1) (x2 + 1) hv
  refine V_lv [0] [(0, .ref hM)] rfl ?_
  unfold wp_X5_inOneAlone at hv
  refine V_iconst hc dX5_inOneAlone_0 ?_
  refine V_istore_n hc dX5_inOneAlone_1 [(1, .int (iI 0)), (0, .ref hM)] (by decide) rfl ?_
  refine V_iconst hc dX5_inOneAlone_2 ?_
  refine V_istore_n hc dX5_inOneAlone_3 [(2, .int (iI 0)), (1, .int (iI 0)), (0, .ref hM)] (by decide) rfl ?_
  refine V_lv [2, 1, 0] [(0, .ref hM), (1, .int (iI 0)), (2, .int (iI 0))] rfl ?_
  obtain ⟨n9, hv⟩ := hv
  exact L_4 z n9 0 0 hv
abbrev W1_X5_aboutRebuild (t : Nat → ClassId) (hM : Nat) (zA : Nat) (spA : Nat) (svA : Nat) (soA : Nat) (ikA : Nat) (txA : Nat) (viA : Nat) (srA : Nat) (frA : Nat) (toA : Nat) (hoA : Nat) (keA : Nat) (nsv : Int) (len : Int) (thr : Int) (nvi : Int) (low : Int) (high : Int) (nto : Int) (spo : Int) (mos : Int) (z : Nat → Int) (sp : Nat → Int) (sv : Nat → Int) (so : Nat → Int) (ik : Nat → Int) (tx : Nat → Int) (vi : Nat → Int) (sr : Nat → Int) (fr : Nat → Int) (to : Nat → Int) (ho : Nat → Int) (ke : Nat → Int) (u : Unit) : va_W := [oB hM 5 [.ref zA, .ref spA, .ref svA, .int (iI nsv), .ref soA, .ref ikA, .ref txA, .int (iI len), .int (iI thr), .int (iI nvi), .ref viA, .int (iI low), .int (iI high), .ref srA, .ref frA, .ref toA, .ref hoA, .ref keA, .int (iI nto), .int (iI spo), .int (iI mos)], aI t zA 646 z, aI t spA 646 sp, aI t svA 3876 sv, aI t soA 1292 so, aZ t ikA 2 ik, aI t txA 60 tx, aI t viA 120 vi, aI t srA 120 sr, aI t frA 122 fr, aI t toA 122 to, aI t hoA 31 ho, aI t keA 31 ke]
abbrev po_X5_aboutRebuild (Q : Int → Prop) (r : Int) (u : Unit) : Prop := Q r
abbrev rm_X5_aboutRebuild : Room := { frames := 3, cells := 0, slots := 0, locals := 69 }
def wp_X5_aboutRebuild_24 (z : Nat → Int) (x1 : Int) (s0 : Int) (Q : Int → Prop) : Prop := inR x1 ∧ (x1 = 0 → inR s0 ∧ (s0 = 0 → Q 2) ∧ (¬ (s0 = 0) → Q 1)) ∧ (x1 = 1 → Q (z 483)) ∧ (x1 = 2 → Q (z 484)) ∧ (x1 = 3 → Q (z 485)) ∧ (x1 = 4 → inR s0 ∧ (s0 = 0 → Q (-1)) ∧ (¬ (s0 = 0) → (0 ≤ 486 + (z 484) ∧ 486 + (z 484) < 646) ∧ Q (z (486 + (z 484)).toNat))) ∧ (x1 < 0 ∨ 4 < x1 → wp_X5_inOneAlone z (fun r_1 => Q r_1))
def wp_X5_aboutRebuild (z : Nat → Int) (x1 : Int) (Q : Int → Prop) : Prop := inR (z 484) ∧ inR (z 483) ∧ (z 484 ≥ z 483 → wp_X5_aboutRebuild_24 z x1 0 Q) ∧ (¬ (z 484 ≥ z 483) → wp_X5_aboutRebuild_24 z x1 1 Q)
theorem m_X5_aboutRebuild_7 : Cond.fieldLink RX5 7 "BackgroundRebuildModel" "z" "[I" ∈ wsX5_aboutRebuild := by decide +kernel
theorem i_X5_aboutRebuild_5 : ∀ w ∈ u_ws RX5 TX5 21, w ∈ wsX5_aboutRebuild := by decide +kernel
theorem ok_X5_aboutRebuild : yX5_aboutRebuild.cls = RX5 ∧ yX5_aboutRebuild.cls ≠ "java/lang/invoke/MethodHandle" ∧ yX5_aboutRebuild.cls ≠ "java/lang/invoke/VarHandle" ∧ (parseMethodDescriptor yX5_aboutRebuild.desc).map (fun d => d.parameters.length) = some 1 := by decide +kernel
set_option maxHeartbeats 4000000 in
set_option maxRecDepth 100000 in
theorem met_X5_aboutRebuild (l : Launch) (D : va_G) (t : Nat → ClassId) (hM : Nat) (zA : Nat) (spA : Nat) (svA : Nat) (soA : Nat) (ikA : Nat) (txA : Nat) (viA : Nat) (srA : Nat) (frA : Nat) (toA : Nat) (hoA : Nat) (keA : Nat) (nsv : Int) (len : Int) (thr : Int) (nvi : Int) (low : Int) (high : Int) (nto : Int) (spo : Int) (mos : Int) (z : Nat → Int) (sp : Nat → Int) (sv : Nat → Int) (so : Nat → Int) (ik : Nat → Int) (tx : Nat → Int) (vi : Nat → Int) (sr : Nat → Int) (fr : Nat → Int) (to : Nat → Int) (ho : Nat → Int) (ke : Nat → Int) (x1 : Int) (Q : Int → Prop) (hv : wp_X5_aboutRebuild z x1 Q) : MI l D t yX5_aboutRebuild wsX5_aboutRebuild rm_X5_aboutRebuild [.ref hM, .int (iI x1)] [oB hM 5 [.ref zA, .ref spA, .ref svA, .int (iI nsv), .ref soA, .ref ikA, .ref txA, .int (iI len), .int (iI thr), .int (iI nvi), .ref viA, .int (iI low), .int (iI high), .ref srA, .ref frA, .ref toA, .ref hoA, .ref keA, .int (iI nto), .int (iI spo), .int (iI mos)], aI t zA 646 z, aI t spA 646 sp, aI t svA 3876 sv, aI t soA 1292 so, aZ t ikA 2 ik, aI t txA 60 tx, aI t viA 120 vi, aI t srA 120 sr, aI t frA 122 fr, aI t toA 122 to, aI t hoA 31 ho, aI t keA 31 ke] (W1_X5_aboutRebuild t hM zA spA svA soA ikA txA viA srA frA toA hoA keA nsv len thr nvi low high nto spo mos z sp sv so ik tx vi sr fr to ho ke) (po_X5_aboutRebuild Q) 0 0 := by
  refine M_ofi (cc := cX5_aboutRebuild) (nL := 3) (by decide) rfl (Nat.le_of_ble_eq_true rfl) ?_
  intro p e s m args below meth c A hc hr
  have C_24 : ∀ (z : Nat → Int) (x1 : Int) (s0 : Int), wp_X5_aboutRebuild_24 z x1 s0 Q → V p l e rm_X5_aboutRebuild s m args below meth c D A 3 0 0 (MQ below (QI D A (W1_X5_aboutRebuild t hM zA spA svA soA ikA txA viA srA frA toA hoA keA nsv len thr nvi low high nto spo mos z sp sv so ik tx vi sr fr to ho ke) (po_X5_aboutRebuild Q)) args s 0 0 A) 24 [(0, .ref hM), (1, .int (iI x1))] [.int (iI s0)] [oB hM 5 [.ref zA, .ref spA, .ref svA, .int (iI nsv), .ref soA, .ref ikA, .ref txA, .int (iI len), .int (iI thr), .int (iI nvi), .ref viA, .int (iI low), .int (iI high), .ref srA, .ref frA, .ref toA, .ref hoA, .ref keA, .int (iI nto), .int (iI spo), .int (iI mos)], aI t zA 646 z, aI t spA 646 sp, aI t svA 3876 sv, aI t soA 1292 so, aZ t ikA 2 ik, aI t txA 60 tx, aI t viA 120 vi, aI t srA 120 sr, aI t frA 122 fr, aI t toA 122 to, aI t hoA 31 ho, aI t keA 31 ke] := by
    intro z x1 s0 hv
    unfold wp_X5_aboutRebuild_24 at hv
    refine V_istore_n hc dX5_aboutRebuild_24 [(2, .int (iI s0)), (0, .ref hM), (1, .int (iI x1))] (by decide) rfl ?_
    refine V_iload_n hc dX5_aboutRebuild_25 2 rfl ?_
    obtain ⟨hr9, hs0, hs1, hs2, hs3, hs4, hsd⟩ := hv
    by_cases e0 : x1 = 0
    · have hv := hs0 e0
      refine V_tableIn (off := 34) (tgt := 60) hc dX5_aboutRebuild_26 hr9 (by omega) (by omega) (by rw [e0]; rfl) (by decide) ?_
      refine V_iload_n hc dX5_aboutRebuild_60 0 rfl ?_
      refine V_if_eq (tgt := 68) hc dX5_aboutRebuild_61 (by decide) hv (fun hv => ?_) (fun hv => ?_)
      · refine V_iconst hc dX5_aboutRebuild_68 ?_
        exact V_iret hc hr () hv rfl dX5_aboutRebuild_69
      · refine V_iconst hc dX5_aboutRebuild_64 ?_
        refine V_goto (tgt := 69) hc dX5_aboutRebuild_65 (by decide) ?_
        exact V_iret hc hr () hv rfl dX5_aboutRebuild_69
    by_cases e1 : x1 = 1
    · have hv := hs1 e1
      refine V_tableIn (off := 44) (tgt := 70) hc dX5_aboutRebuild_26 hr9 (by omega) (by omega) (by rw [e1]; rfl) (by decide) ?_
      refine V_aload_n hc dX5_aboutRebuild_70 1 rfl ?_
      refine V_get (C := RX5) (T := TX5) (N := 21) hc i_X5_aboutRebuild_5 0 rfl rfl 0 (by decide) m_X5_aboutRebuild_7 rfl dX5_aboutRebuild_71 ?_
      refine V_sipush hc dX5_aboutRebuild_74 (by decide) ?_
      refine V_iald hc 1 rfl (by decide) ⟨by decide, hv⟩ dX5_aboutRebuild_77 (fun hv => ?_)
      exact V_iret hc hr () hv rfl dX5_aboutRebuild_78
    by_cases e2 : x1 = 2
    · have hv := hs2 e2
      refine V_tableIn (off := 53) (tgt := 79) hc dX5_aboutRebuild_26 hr9 (by omega) (by omega) (by rw [e2]; rfl) (by decide) ?_
      refine V_aload_n hc dX5_aboutRebuild_79 1 rfl ?_
      refine V_get (C := RX5) (T := TX5) (N := 21) hc i_X5_aboutRebuild_5 0 rfl rfl 0 (by decide) m_X5_aboutRebuild_7 rfl dX5_aboutRebuild_80 ?_
      refine V_sipush hc dX5_aboutRebuild_83 (by decide) ?_
      refine V_iald hc 1 rfl (by decide) ⟨by decide, hv⟩ dX5_aboutRebuild_86 (fun hv => ?_)
      exact V_iret hc hr () hv rfl dX5_aboutRebuild_87
    by_cases e3 : x1 = 3
    · have hv := hs3 e3
      refine V_tableIn (off := 62) (tgt := 88) hc dX5_aboutRebuild_26 hr9 (by omega) (by omega) (by rw [e3]; rfl) (by decide) ?_
      refine V_aload_n hc dX5_aboutRebuild_88 1 rfl ?_
      refine V_get (C := RX5) (T := TX5) (N := 21) hc i_X5_aboutRebuild_5 0 rfl rfl 0 (by decide) m_X5_aboutRebuild_7 rfl dX5_aboutRebuild_89 ?_
      refine V_sipush hc dX5_aboutRebuild_92 (by decide) ?_
      refine V_iald hc 1 rfl (by decide) ⟨by decide, hv⟩ dX5_aboutRebuild_95 (fun hv => ?_)
      exact V_iret hc hr () hv rfl dX5_aboutRebuild_96
    by_cases e4 : x1 = 4
    · have hv := hs4 e4
      refine V_tableIn (off := 71) (tgt := 97) hc dX5_aboutRebuild_26 hr9 (by omega) (by omega) (by rw [e4]; rfl) (by decide) ?_
      refine V_iload_n hc dX5_aboutRebuild_97 0 rfl ?_
      refine V_if_eq (tgt := 121) hc dX5_aboutRebuild_98 (by decide) hv (fun hv => ?_) (fun hv => ?_)
      · refine V_iconst hc dX5_aboutRebuild_121 ?_
        exact V_iret hc hr () hv rfl dX5_aboutRebuild_122
      · refine V_aload_n hc dX5_aboutRebuild_101 1 rfl ?_
        refine V_get (C := RX5) (T := TX5) (N := 21) hc i_X5_aboutRebuild_5 0 rfl rfl 0 (by decide) m_X5_aboutRebuild_7 rfl dX5_aboutRebuild_102 ?_
        refine V_sipush hc dX5_aboutRebuild_105 (by decide) ?_
        refine V_aload_n hc dX5_aboutRebuild_108 1 rfl ?_
        refine V_get (C := RX5) (T := TX5) (N := 21) hc i_X5_aboutRebuild_5 0 rfl rfl 0 (by decide) m_X5_aboutRebuild_7 rfl dX5_aboutRebuild_109 ?_
        refine V_sipush hc dX5_aboutRebuild_112 (by decide) ?_
        refine V_iald hc 1 rfl (by decide) ⟨by decide, hv⟩ dX5_aboutRebuild_115 (fun hv => ?_)
        refine V_iadd hc dX5_aboutRebuild_116 ?_
        refine V_iald hc 1 rfl (by decide) hv dX5_aboutRebuild_117 (fun hv => ?_)
        refine V_goto (tgt := 122) hc dX5_aboutRebuild_118 (by decide) ?_
        exact V_iret hc hr () hv rfl dX5_aboutRebuild_122
    have hv := hsd (by omega)
    refine V_tableOut (tgt := 123) hc dX5_aboutRebuild_26 hr9 (by omega) (by decide) ?_
    refine V_aload_n hc dX5_aboutRebuild_123 1 rfl ?_
    refine V_callVI (As := []) hc (wc := [oB hM 5 [.ref zA, .ref spA, .ref svA, .int (iI nsv), .ref soA, .ref ikA, .ref txA, .int (iI len), .int (iI thr), .int (iI nvi), .ref viA, .int (iI low), .int (iI high), .ref srA, .ref frA, .ref toA, .ref hoA, .ref keA, .int (iI nto), .int (iI spo), .int (iI mos)], aI t zA 646 z, aI t spA 646 sp, aI t svA 3876 sv, aI t soA 1292 so, aZ t ikA 2 ik, aI t txA 60 tx, aI t viA 120 vi, aI t srA 120 sr, aI t frA 122 fr, aI t toA 122 to, aI t hoA 31 ho, aI t keA 31 ke]) (wr := []) (pmI [0, 1, 2, 3, 4, 5, 6, 7, 8, 9, 10, 11, 12] 13 rfl (by decide +kernel) rfl) rfl rfl (met_X5_inOneAlone l D t hM zA spA svA soA ikA txA viA srA frA toA hoA keA nsv len thr nvi low high nto spo mos z sp sv so ik tx vi sr fr to ho ke _ hv) rfl gX5_aboutRebuild_X5_inOneAlone rfl ⟨rfl, rfl⟩ ok_X5_inOneAlone (by decide) (Nat.le_of_ble_eq_true rfl) dX5_aboutRebuild_124 (by decide) (fun r_1 _ hv => ?_)
    try dsimp only at hv
    refine V_perm (ws1 := [oB hM 5 [.ref zA, .ref spA, .ref svA, .int (iI nsv), .ref soA, .ref ikA, .ref txA, .int (iI len), .int (iI thr), .int (iI nvi), .ref viA, .int (iI low), .int (iI high), .ref srA, .ref frA, .ref toA, .ref hoA, .ref keA, .int (iI nto), .int (iI spo), .int (iI mos)], aI t zA 646 z, aI t spA 646 sp, aI t svA 3876 sv, aI t soA 1292 so, aZ t ikA 2 ik, aI t txA 60 tx, aI t viA 120 vi, aI t srA 120 sr, aI t frA 122 fr, aI t toA 122 to, aI t hoA 31 ho, aI t keA 31 ke]) (pmI [0, 1, 2, 3, 4, 5, 6, 7, 8, 9, 10, 11, 12] 13 rfl (by decide +kernel) rfl) ?_
    exact V_iret hc hr () hv rfl dX5_aboutRebuild_127
  refine V_lv [0, 1] [(0, .ref hM), (1, .int (iI x1))] rfl ?_
  unfold wp_X5_aboutRebuild at hv
  refine V_aload_n hc dX5_aboutRebuild_0 0 rfl ?_
  refine V_get (C := RX5) (T := TX5) (N := 21) hc i_X5_aboutRebuild_5 0 rfl rfl 0 (by decide) m_X5_aboutRebuild_7 rfl dX5_aboutRebuild_1 ?_
  refine V_sipush hc dX5_aboutRebuild_4 (by decide) ?_
  refine V_iald hc 1 rfl (by decide) ⟨by decide, hv⟩ dX5_aboutRebuild_7 (fun hv => ?_)
  refine V_aload_n hc dX5_aboutRebuild_8 0 rfl ?_
  refine V_get (C := RX5) (T := TX5) (N := 21) hc i_X5_aboutRebuild_5 0 rfl rfl 0 (by decide) m_X5_aboutRebuild_7 rfl dX5_aboutRebuild_9 ?_
  refine V_sipush hc dX5_aboutRebuild_12 (by decide) ?_
  refine V_iald hc 1 rfl (by decide) ⟨by decide, hv⟩ dX5_aboutRebuild_15 (fun hv => ?_)
  refine V_icmp_ge (tgt := 23) hc dX5_aboutRebuild_16 (by decide) hv (fun hv => ?_) (fun hv => ?_)
  · refine V_iconst hc dX5_aboutRebuild_23 ?_
    exact C_24 z x1 0 hv
  · refine V_iconst hc dX5_aboutRebuild_19 ?_
    refine V_goto (tgt := 24) hc dX5_aboutRebuild_20 (by decide) ?_
    exact C_24 z x1 1 hv
abbrev W1_X5_rebuild (t : Nat → ClassId) (hM : Nat) (zA : Nat) (spA : Nat) (svA : Nat) (soA : Nat) (ikA : Nat) (txA : Nat) (viA : Nat) (srA : Nat) (frA : Nat) (toA : Nat) (hoA : Nat) (keA : Nat) (nsv : Int) (len : Int) (nvi : Int) (low : Int) (high : Int) (nto : Int) (spo : Int) (mos : Int) (z : Nat → Int) (sp : Nat → Int) (sv : Nat → Int) (so : Nat → Int) (ik : Nat → Int) (tx : Nat → Int) (vi : Nat → Int) (sr : Nat → Int) (fr : Nat → Int) (to : Nat → Int) (ho : Nat → Int) (ke : Nat → Int) (u : (Int)) : va_W := [oB hM 5 [.ref zA, .ref spA, .ref svA, .int (iI nsv), .ref soA, .ref ikA, .ref txA, .int (iI len), .int (iI u), .int (iI nvi), .ref viA, .int (iI low), .int (iI high), .ref srA, .ref frA, .ref toA, .ref hoA, .ref keA, .int (iI nto), .int (iI spo), .int (iI mos)], aI t zA 646 z, aI t spA 646 sp, aI t svA 3876 sv, aI t soA 1292 so, aZ t ikA 2 ik, aI t txA 60 tx, aI t viA 120 vi, aI t srA 120 sr, aI t frA 122 fr, aI t toA 122 to, aI t hoA 31 ho, aI t keA 31 ke]
abbrev po_X5_rebuild (Q : Int → (Int) → Prop) (r : Int) (u : (Int)) : Prop := Q r u
abbrev rm_X5_rebuild : Room := { frames := 4, cells := 0, slots := 0, locals := 91 }
def wp_X5_rebuild_15 (thr : Int) (z : Nat → Int) (x1 : Int) (s0 : Int) (Q : Int → (Int) → Prop) : Prop := wp_X5_refused thr s0 (fun r_2 thr_2 => inR r_2 ∧ (r_2 = 0 → inR (z 482) ∧ (z 482 ≠ 1 → inR x1 ∧ (x1 ≠ 4 → Q 0 thr_2) ∧ (¬ (x1 ≠ 4) → Q (-1) thr_2)) ∧ (¬ (z 482 ≠ 1) → wp_X5_aboutRebuild z x1 (fun r_3 => Q r_3 thr_2))) ∧ (¬ (r_2 = 0) → Q 0 thr_2))
def wp_X5_rebuild (thr : Int) (z : Nat → Int) (x1 : Int) (Q : Int → (Int) → Prop) : Prop := wp_X5_in x1 0 5 (fun r_1 => inR r_1 ∧ (r_1 = 0 → wp_X5_rebuild_15 thr z x1 1 Q) ∧ (¬ (r_1 = 0) → wp_X5_rebuild_15 thr z x1 0 Q))
theorem m_X5_rebuild_7 : Cond.fieldLink RX5 7 "BackgroundRebuildModel" "z" "[I" ∈ wsX5_rebuild := by decide +kernel
theorem i_X5_rebuild_5 : ∀ w ∈ u_ws RX5 TX5 21, w ∈ wsX5_rebuild := by decide +kernel
theorem ok_X5_rebuild : yX5_rebuild.cls = RX5 ∧ yX5_rebuild.cls ≠ "java/lang/invoke/MethodHandle" ∧ yX5_rebuild.cls ≠ "java/lang/invoke/VarHandle" ∧ (parseMethodDescriptor yX5_rebuild.desc).map (fun d => d.parameters.length) = some 1 := by decide +kernel
set_option maxHeartbeats 4000000 in
set_option maxRecDepth 100000 in
theorem met_X5_rebuild (l : Launch) (D : va_G) (t : Nat → ClassId) (hM : Nat) (zA : Nat) (spA : Nat) (svA : Nat) (soA : Nat) (ikA : Nat) (txA : Nat) (viA : Nat) (srA : Nat) (frA : Nat) (toA : Nat) (hoA : Nat) (keA : Nat) (nsv : Int) (len : Int) (thr : Int) (nvi : Int) (low : Int) (high : Int) (nto : Int) (spo : Int) (mos : Int) (z : Nat → Int) (sp : Nat → Int) (sv : Nat → Int) (so : Nat → Int) (ik : Nat → Int) (tx : Nat → Int) (vi : Nat → Int) (sr : Nat → Int) (fr : Nat → Int) (to : Nat → Int) (ho : Nat → Int) (ke : Nat → Int) (x1 : Int) (Q : Int → (Int) → Prop) (hv : wp_X5_rebuild thr z x1 Q) : MI l D t yX5_rebuild wsX5_rebuild rm_X5_rebuild [.ref hM, .int (iI x1)] [oB hM 5 [.ref zA, .ref spA, .ref svA, .int (iI nsv), .ref soA, .ref ikA, .ref txA, .int (iI len), .int (iI thr), .int (iI nvi), .ref viA, .int (iI low), .int (iI high), .ref srA, .ref frA, .ref toA, .ref hoA, .ref keA, .int (iI nto), .int (iI spo), .int (iI mos)], aI t zA 646 z, aI t spA 646 sp, aI t svA 3876 sv, aI t soA 1292 so, aZ t ikA 2 ik, aI t txA 60 tx, aI t viA 120 vi, aI t srA 120 sr, aI t frA 122 fr, aI t toA 122 to, aI t hoA 31 ho, aI t keA 31 ke] (W1_X5_rebuild t hM zA spA svA soA ikA txA viA srA frA toA hoA keA nsv len nvi low high nto spo mos z sp sv so ik tx vi sr fr to ho ke) (po_X5_rebuild Q) 0 0 := by
  refine M_ofi (cc := cX5_rebuild) (nL := 2) (by decide) rfl (Nat.le_of_ble_eq_true rfl) ?_
  intro p e s m args below meth c A hc hr
  have C_15 : ∀ (thr : Int) (z : Nat → Int) (x1 : Int) (s0 : Int), wp_X5_rebuild_15 thr z x1 s0 Q → V p l e rm_X5_rebuild s m args below meth c D A 2 0 0 (MQ below (QI D A (W1_X5_rebuild t hM zA spA svA soA ikA txA viA srA frA toA hoA keA nsv len nvi low high nto spo mos z sp sv so ik tx vi sr fr to ho ke) (po_X5_rebuild Q)) args s 0 0 A) 15 [(0, .ref hM), (1, .int (iI x1))] [.int (iI s0), .ref hM] [oB hM 5 [.ref zA, .ref spA, .ref svA, .int (iI nsv), .ref soA, .ref ikA, .ref txA, .int (iI len), .int (iI thr), .int (iI nvi), .ref viA, .int (iI low), .int (iI high), .ref srA, .ref frA, .ref toA, .ref hoA, .ref keA, .int (iI nto), .int (iI spo), .int (iI mos)], aI t zA 646 z, aI t spA 646 sp, aI t svA 3876 sv, aI t soA 1292 so, aZ t ikA 2 ik, aI t txA 60 tx, aI t viA 120 vi, aI t srA 120 sr, aI t frA 122 fr, aI t toA 122 to, aI t hoA 31 ho, aI t keA 31 ke] := by
    intro thr z x1 s0 hv
    unfold wp_X5_rebuild_15 at hv
    refine V_callVI (As := [.int (iI s0)]) hc (wc := [oB hM 5 [.ref zA, .ref spA, .ref svA, .int (iI nsv), .ref soA, .ref ikA, .ref txA, .int (iI len), .int (iI thr), .int (iI nvi), .ref viA, .int (iI low), .int (iI high), .ref srA, .ref frA, .ref toA, .ref hoA, .ref keA, .int (iI nto), .int (iI spo), .int (iI mos)], aI t zA 646 z, aI t spA 646 sp, aI t svA 3876 sv, aI t soA 1292 so, aZ t ikA 2 ik, aI t txA 60 tx, aI t viA 120 vi, aI t srA 120 sr, aI t frA 122 fr, aI t toA 122 to, aI t hoA 31 ho, aI t keA 31 ke]) (wr := []) (pmI [0, 1, 2, 3, 4, 5, 6, 7, 8, 9, 10, 11, 12] 13 rfl (by decide +kernel) rfl) rfl rfl (met_X5_refused l D t hM zA spA svA soA ikA txA viA srA frA toA hoA keA nsv len thr nvi low high nto spo mos z sp sv so ik tx vi sr fr to ho ke s0 _ hv) rfl gX5_rebuild_X5_refused rfl ⟨rfl, rfl⟩ ok_X5_refused (by decide) (Nat.le_of_ble_eq_true rfl) dX5_rebuild_15 (by decide) (fun r_2 u9 hv => ?_)
    obtain ⟨thr_2, h9⟩ : ∃ z, z = u9 := ⟨_, rfl⟩
    subst h9
    try dsimp only at hv
    refine V_perm (ws1 := [oB hM 5 [.ref zA, .ref spA, .ref svA, .int (iI nsv), .ref soA, .ref ikA, .ref txA, .int (iI len), .int (iI thr_2), .int (iI nvi), .ref viA, .int (iI low), .int (iI high), .ref srA, .ref frA, .ref toA, .ref hoA, .ref keA, .int (iI nto), .int (iI spo), .int (iI mos)], aI t zA 646 z, aI t spA 646 sp, aI t svA 3876 sv, aI t soA 1292 so, aZ t ikA 2 ik, aI t txA 60 tx, aI t viA 120 vi, aI t srA 120 sr, aI t frA 122 fr, aI t toA 122 to, aI t hoA 31 ho, aI t keA 31 ke]) (pmI [0, 1, 2, 3, 4, 5, 6, 7, 8, 9, 10, 11, 12] 13 rfl (by decide +kernel) rfl) ?_
    refine V_if_eq (tgt := 23) hc dX5_rebuild_18 (by decide) hv (fun hv => ?_) (fun hv => ?_)
    · refine V_aload_n hc dX5_rebuild_23 0 rfl ?_
      refine V_get (C := RX5) (T := TX5) (N := 21) hc i_X5_rebuild_5 0 rfl rfl 0 (by decide) m_X5_rebuild_7 rfl dX5_rebuild_24 ?_
      refine V_sipush hc dX5_rebuild_27 (by decide) ?_
      refine V_iald hc 1 rfl (by decide) ⟨by decide, hv⟩ dX5_rebuild_30 (fun hv => ?_)
      refine V_iconst hc dX5_rebuild_31 ?_
      refine V_icmp_ne (tgt := 43) hc dX5_rebuild_32 (by decide) ⟨hv.1, by decide, hv.2⟩ (fun hv => ?_) (fun hv => ?_)
      · refine V_iload_n hc dX5_rebuild_43 1 rfl ?_
        refine V_iconst hc dX5_rebuild_44 ?_
        refine V_icmp_ne (tgt := 52) hc dX5_rebuild_45 (by decide) ⟨hv.1, by decide, hv.2⟩ (fun hv => ?_) (fun hv => ?_)
        · refine V_iconst hc dX5_rebuild_52 ?_
          exact V_iret hc hr thr_2 hv rfl dX5_rebuild_53
        · refine V_iconst hc dX5_rebuild_48 ?_
          refine V_goto (tgt := 53) hc dX5_rebuild_49 (by decide) ?_
          exact V_iret hc hr thr_2 hv rfl dX5_rebuild_53
      · refine V_aload_n hc dX5_rebuild_35 0 rfl ?_
        refine V_iload_n hc dX5_rebuild_36 1 rfl ?_
        refine V_callVI (As := [.int (iI x1)]) hc (wc := [oB hM 5 [.ref zA, .ref spA, .ref svA, .int (iI nsv), .ref soA, .ref ikA, .ref txA, .int (iI len), .int (iI thr_2), .int (iI nvi), .ref viA, .int (iI low), .int (iI high), .ref srA, .ref frA, .ref toA, .ref hoA, .ref keA, .int (iI nto), .int (iI spo), .int (iI mos)], aI t zA 646 z, aI t spA 646 sp, aI t svA 3876 sv, aI t soA 1292 so, aZ t ikA 2 ik, aI t txA 60 tx, aI t viA 120 vi, aI t srA 120 sr, aI t frA 122 fr, aI t toA 122 to, aI t hoA 31 ho, aI t keA 31 ke]) (wr := []) (pmI [0, 1, 2, 3, 4, 5, 6, 7, 8, 9, 10, 11, 12] 13 rfl (by decide +kernel) rfl) rfl rfl (met_X5_aboutRebuild l D t hM zA spA svA soA ikA txA viA srA frA toA hoA keA nsv len thr_2 nvi low high nto spo mos z sp sv so ik tx vi sr fr to ho ke x1 _ hv) rfl gX5_rebuild_X5_aboutRebuild rfl ⟨rfl, rfl⟩ ok_X5_aboutRebuild (by decide) (Nat.le_of_ble_eq_true rfl) dX5_rebuild_37 (by decide) (fun r_3 _ hv => ?_)
        try dsimp only at hv
        refine V_perm (ws1 := [oB hM 5 [.ref zA, .ref spA, .ref svA, .int (iI nsv), .ref soA, .ref ikA, .ref txA, .int (iI len), .int (iI thr_2), .int (iI nvi), .ref viA, .int (iI low), .int (iI high), .ref srA, .ref frA, .ref toA, .ref hoA, .ref keA, .int (iI nto), .int (iI spo), .int (iI mos)], aI t zA 646 z, aI t spA 646 sp, aI t svA 3876 sv, aI t soA 1292 so, aZ t ikA 2 ik, aI t txA 60 tx, aI t viA 120 vi, aI t srA 120 sr, aI t frA 122 fr, aI t toA 122 to, aI t hoA 31 ho, aI t keA 31 ke]) (pmI [0, 1, 2, 3, 4, 5, 6, 7, 8, 9, 10, 11, 12] 13 rfl (by decide +kernel) rfl) ?_
        refine V_goto (tgt := 53) hc dX5_rebuild_40 (by decide) ?_
        exact V_iret hc hr thr_2 hv rfl dX5_rebuild_53
    · refine V_iconst hc dX5_rebuild_21 ?_
      exact V_iret hc hr thr_2 hv rfl dX5_rebuild_22
  refine V_lv [0, 1] [(0, .ref hM), (1, .int (iI x1))] rfl ?_
  unfold wp_X5_rebuild at hv
  refine V_aload_n hc dX5_rebuild_0 0 rfl ?_
  refine V_iload_n hc dX5_rebuild_1 1 rfl ?_
  refine V_iconst hc dX5_rebuild_2 ?_
  refine V_iconst hc dX5_rebuild_3 ?_
  refine V_callSI (As := [.int (iI x1), .int (iI 0), .int (iI 5)]) hc (wc := []) (wr := [oB hM 5 [.ref zA, .ref spA, .ref svA, .int (iI nsv), .ref soA, .ref ikA, .ref txA, .int (iI len), .int (iI thr), .int (iI nvi), .ref viA, .int (iI low), .int (iI high), .ref srA, .ref frA, .ref toA, .ref hoA, .ref keA, .int (iI nto), .int (iI spo), .int (iI mos)], aI t zA 646 z, aI t spA 646 sp, aI t svA 3876 sv, aI t soA 1292 so, aZ t ikA 2 ik, aI t txA 60 tx, aI t viA 120 vi, aI t srA 120 sr, aI t frA 122 fr, aI t toA 122 to, aI t hoA 31 ho, aI t keA 31 ke]) (pmI [0, 1, 2, 3, 4, 5, 6, 7, 8, 9, 10, 11, 12] 13 rfl (by decide +kernel) rfl) (met_X5_in l D t x1 0 5 _ hv) rfl gX5_rebuild_X5_in rfl ⟨rfl, rfl⟩ ok_X5_in (by decide) (Nat.le_of_ble_eq_true rfl) dX5_rebuild_4 (by decide) (fun r_1 _ hv => ?_)
  try dsimp only at hv
  refine V_perm (ws1 := [oB hM 5 [.ref zA, .ref spA, .ref svA, .int (iI nsv), .ref soA, .ref ikA, .ref txA, .int (iI len), .int (iI thr), .int (iI nvi), .ref viA, .int (iI low), .int (iI high), .ref srA, .ref frA, .ref toA, .ref hoA, .ref keA, .int (iI nto), .int (iI spo), .int (iI mos)], aI t zA 646 z, aI t spA 646 sp, aI t svA 3876 sv, aI t soA 1292 so, aZ t ikA 2 ik, aI t txA 60 tx, aI t viA 120 vi, aI t srA 120 sr, aI t frA 122 fr, aI t toA 122 to, aI t hoA 31 ho, aI t keA 31 ke]) (pmI [0, 1, 2, 3, 4, 5, 6, 7, 8, 9, 10, 11, 12] 13 rfl (by decide +kernel) rfl) ?_
  refine V_if_eq (tgt := 14) hc dX5_rebuild_7 (by decide) hv (fun hv => ?_) (fun hv => ?_)
  · refine V_iconst hc dX5_rebuild_14 ?_
    exact C_15 thr z x1 1 hv
  · refine V_iconst hc dX5_rebuild_10 ?_
    refine V_goto (tgt := 15) hc dX5_rebuild_11 (by decide) ?_
    exact C_15 thr z x1 0 hv
