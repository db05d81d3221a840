abbrev W1_X5_readAct (t : Nat → ClassId) (hM : Nat) (zA : Nat) (spA : Nat) (svA : Nat) (soA : Nat) (ikA : Nat) (txA : Nat) (viA : Nat) (srA : Nat) (frA : Nat) (toA : Nat) (hoA : Nat) (keA : Nat) (nsv : Int) (len : Int) (thr : Int) (nvi : Int) (low : Int) (high : Int) (mos : Int) (z : Nat → Int) (sp : Nat → Int) (sv : Nat → Int) (so : Nat → Int) (ik : Nat → Int) (tx : Nat → Int) (vi : Nat → Int) (sr : Nat → Int) (fr : Nat → Int) (to : Nat → Int) (u : (Int) × (Int) × (Nat → Int) × (Nat → Int)) : va_W := [oB hM 5 [.ref zA, .ref spA, .ref svA, .int (iI nsv), .ref soA, .ref ikA, .ref txA, .int (iI len), .int (iI thr), .int (iI nvi), .ref viA, .int (iI low), .int (iI high), .ref srA, .ref frA, .ref toA, .ref hoA, .ref keA, .int (iI u.1), .int (iI u.2.1), .int (iI mos)], aI t zA 646 z, aI t spA 646 sp, aI t svA 3876 sv, aI t soA 1292 so, aZ t ikA 2 ik, aI t txA 60 tx, aI t viA 120 vi, aI t srA 120 sr, aI t frA 122 fr, aI t toA 122 to, aI t hoA 31 u.2.2.1, aI t keA 31 u.2.2.2]
abbrev po_X5_readAct (Q : Int → (Int) → (Int) → (Nat → Int) → (Nat → Int) → Prop) (r : Int) (u : (Int) × (Int) × (Nat → Int) × (Nat → Int)) : Prop := Q r u.1 u.2.1 u.2.2.1 u.2.2.2
abbrev rm_X5_readAct : Room := { frames := 3, cells := 0, slots := 0, locals := 66 }
def wp_X5_readAct_110 (len : Int) (nto : Int) (spo : Int) (tx : Nat → Int) (ho : Nat → Int) (ke : Nat → Int) (x4 : Int) (s0 : Int) (s1 : Int) (Q : Int → (Int) → (Int) → (Nat → Int) → (Nat → Int) → Prop) : Prop := (0 ≤ s1 ∧ s1 < 31) ∧ (0 ≤ nto ∧ nto < 31) ∧ Q 1 (nto + 1) spo (uI ho (s1.toNat) s0) (uI ke (nto.toNat) x4)
def wp_X5_readAct_75 (len : Int) (nto : Int) (spo : Int) (tx : Nat → Int) (ho : Nat → Int) (ke : Nat → Int) (x1 : Int) (x2 : Int) (s0 : Int) (Q : Int → (Int) → (Int) → (Nat → Int) → (Nat → Int) → Prop) : Prop := inR s0 ∧ (s0 ≠ (-1) → inR x1 ∧ (x1 = 0 → inR x2 ∧ (x2 = 0 → wp_X5_readAct_110 len nto spo tx ho ke s0 2 nto Q) ∧ (¬ (x2 = 0) → wp_X5_readAct_110 len nto spo tx ho ke s0 1 nto Q)) ∧ (¬ (x1 = 0) → wp_X5_readAct_110 len nto spo tx ho ke s0 0 nto Q)) ∧ (¬ (s0 ≠ (-1)) → Q 0 nto spo ho ke)
def wp_X5_readAct_63 (len : Int) (nto : Int) (spo : Int) (tx : Nat → Int) (ho : Nat → Int) (ke : Nat → Int) (x1 : Int) (x2 : Int) (x3 : Int) (Q : Int → (Int) → (Int) → (Nat → Int) → (Nat → Int) → Prop) : Prop := inR x3 ∧ (x3 = 0 → wp_X5_readKey len spo tx (fun r_4 spo_4 => wp_X5_readAct_75 len nto spo_4 tx ho ke x1 x2 r_4 Q)) ∧ (¬ (x3 = 0) → wp_X5_readAct_75 len nto spo tx ho ke x1 x2 0 Q)
def wp_X5_readAct_48 (len : Int) (nto : Int) (spo : Int) (tx : Nat → Int) (ho : Nat → Int) (ke : Nat → Int) (x1 : Int) (x2 : Int) (s0 : Int) (Q : Int → (Int) → (Int) → (Nat → Int) → (Nat → Int) → Prop) : Prop := inR x1 ∧ (x1 ≠ 0 → wp_X5_readAct_63 len nto spo tx ho ke x1 x2 s0 Q) ∧ (¬ (x1 ≠ 0) → inR x2 ∧ (x2 ≠ 0 → wp_X5_readAct_63 len nto spo tx ho ke x1 x2 s0 Q) ∧ (¬ (x2 ≠ 0) → inR s0 ∧ (s0 ≠ 0 → wp_X5_readAct_63 len nto spo tx ho ke x1 x2 s0 Q) ∧ (¬ (s0 ≠ 0) → Q 0 nto spo ho ke)))
def wp_X5_readAct_47 (len : Int) (nto : Int) (spo : Int) (tx : Nat → Int) (ho : Nat → Int) (ke : Nat → Int) (x1 : Int) (x2 : Int) (Q : Int → (Int) → (Int) → (Nat → Int) → (Nat → Int) → Prop) : Prop := wp_X5_readAct_48 len nto spo tx ho ke x1 x2 0 Q
def wp_X5_readAct_25 (len : Int) (nto : Int) (spo : Int) (tx : Nat → Int) (ho : Nat → Int) (ke : Nat → Int) (x1 : Int) (s0 : Int) (Q : Int → (Int) → (Int) → (Nat → Int) → (Nat → Int) → Prop) : Prop := inR x1 ∧ (x1 ≠ 0 → wp_X5_readAct_47 len nto spo tx ho ke x1 s0 Q) ∧ (¬ (x1 ≠ 0) → inR s0 ∧ (s0 ≠ 0 → wp_X5_readAct_47 len nto spo tx ho ke x1 s0 Q) ∧ (¬ (s0 ≠ 0) → wp_X5_takes len spo tx 46 (fun r_3 spo_3 => inR r_3 ∧ (r_3 = 0 → wp_X5_readAct_47 len nto spo_3 tx ho ke x1 s0 Q) ∧ (¬ (r_3 = 0) → wp_X5_readAct_48 len nto spo_3 tx ho ke x1 s0 1 Q))))
def wp_X5_readAct_24 (len : Int) (nto : Int) (spo : Int) (tx : Nat → Int) (ho : Nat → Int) (ke : Nat → Int) (x1 : Int) (Q : Int → (Int) → (Int) → (Nat → Int) → (Nat → Int) → Prop) : Prop := wp_X5_readAct_25 len nto spo tx ho ke x1 0 Q
def wp_X5_readAct (len : Int) (nto : Int) (spo : Int) (tx : Nat → Int) (ho : Nat → Int) (ke : Nat → Int) (Q : Int → (Int) → (Int) → (Nat → Int) → (Nat → Int) → Prop) : Prop := wp_X5_takes len spo tx 43 (fun r_1 spo_1 => inR r_1 ∧ (r_1 ≠ 0 → wp_X5_readAct_24 len nto spo_1 tx ho ke r_1 Q) ∧ (¬ (r_1 ≠ 0) → wp_X5_takes len spo_1 tx 45 (fun r_2 spo_2 => inR r_2 ∧ (r_2 = 0 → wp_X5_readAct_24 len nto spo_2 tx ho ke r_1 Q) ∧ (¬ (r_2 = 0) → wp_X5_readAct_25 len nto spo_2 tx ho ke r_1 1 Q))))
theorem m_X5_readAct_41 : Cond.fieldLink RX5 41 "BackgroundRebuildModel" "hows" "[I" ∈ wsX5_readAct := by decide +kernel
theorem m_X5_readAct_152 : Cond.fieldLink RX5 152 "BackgroundRebuildModel" "toldMany" "I" ∈ wsX5_readAct := by decide +kernel
theorem m_X5_readAct_44 : Cond.fieldLink RX5 44 "BackgroundRebuildModel" "keys" "[I" ∈ wsX5_readAct := by decide +kernel
theorem i_X5_readAct_5 : ∀ w ∈ u_ws RX5 TX5 21, w ∈ wsX5_readAct := by decide +kernel
theorem ok_X5_readAct : yX5_readAct.cls = RX5 ∧ yX5_readAct.cls ≠ "java/lang/invoke/MethodHandle" ∧ yX5_readAct.cls ≠ "java/lang/invoke/VarHandle" ∧ (parseMethodDescriptor yX5_readAct.desc).map (fun d => d.parameters.length) = some 0 := by decide +kernel
set_option maxHeartbeats 4000000 in
set_option maxRecDepth 100000 in
theorem met_X5_readAct (l : Launch) (D : va_G) (t : Nat → ClassId) (hM : Nat) (zA : Nat) (spA : Nat) (svA : Nat) (soA : Nat) (ikA : Nat) (txA : Nat) (viA : Nat) (srA : Nat) (frA : Nat) (toA : Nat) (hoA : Nat) (keA : Nat) (nsv : Int) (len : Int) (thr : Int) (nvi : Int) (low : Int) (high : Int) (nto : Int) (spo : Int) (mos : Int) (z : Nat → Int) (sp : Nat → Int) (sv : Nat → Int) (so : Nat → Int) (ik : Nat → Int) (tx : Nat → Int) (vi : Nat → Int) (sr : Nat → Int) (fr : Nat → Int) (to : Nat → Int) (ho : Nat → Int) (ke : Nat → Int) (Q : Int → (Int) → (Int) → (Nat → Int) → (Nat → Int) → Prop) (hv : wp_X5_readAct len nto spo tx ho ke Q) : MI l D t yX5_readAct wsX5_readAct rm_X5_readAct [.ref hM] [oB hM 5 [.ref zA, .ref spA, .ref svA, .int (iI nsv), .ref soA, .ref ikA, .ref txA, .int (iI len), .int (iI thr), .int (iI nvi), .ref viA, .int (iI low), .int (iI high), .ref srA, .ref frA, .ref toA, .ref hoA, .ref keA, .int (iI nto), .int (iI spo), .int (iI mos)], aI t zA 646 z, aI t spA 646 sp, aI t svA 3876 sv, aI t soA 1292 so, aZ t ikA 2 ik, aI t txA 60 tx, aI t viA 120 vi, aI t srA 120 sr, aI t frA 122 fr, aI t toA 122 to, aI t hoA 31 ho, aI t keA 31 ke] (W1_X5_readAct t hM zA spA svA soA ikA txA viA srA frA toA hoA keA nsv len thr nvi low high mos z sp sv so ik tx vi sr fr to) (po_X5_readAct Q) 0 0 := by
  refine M_ofz (cc := cX5_readAct) (nL := 5) (by decide) rfl (Nat.le_of_ble_eq_true rfl) ?_
  intro p e s m args below meth c A hc hr
  have C_110 : ∀ (len : Int) (nto : Int) (spo : Int) (tx : Nat → Int) (ho : Nat → Int) (ke : Nat → Int) (x4 : Int) (s0 : Int) (s1 : Int), wp_X5_readAct_110 len nto spo tx ho ke x4 s0 s1 Q → V p l e rm_X5_readAct s m args below meth c D A 5 0 0 (MQ below (QI D A (W1_X5_readAct t hM zA spA svA soA ikA txA viA srA frA toA hoA keA nsv len thr nvi low high mos z sp sv so ik tx vi sr fr to) (po_X5_readAct Q)) args s 0 0 A) 110 [(0, .ref hM), (4, .int (iI x4))] [.int (iI s0), .int (iI s1), .ref hoA] [oB hM 5 [.ref zA, .ref spA, .ref svA, .int (iI nsv), .ref soA, .ref ikA, .ref txA, .int (iI len), .int (iI thr), .int (iI nvi), .ref viA, .int (iI low), .int (iI high), .ref srA, .ref frA, .ref toA, .ref hoA, .ref keA, .int (iI nto), .int (iI spo), .int (iI mos)], aI t zA 646 z, aI t spA 646 sp, aI t svA 3876 sv, aI t soA 1292 so, aZ t ikA 2 ik, aI t txA 60 tx, aI t viA 120 vi, aI t srA 120 sr, aI t frA 122 fr, aI t toA 122 to, aI t hoA 31 ho, aI t keA 31 ke] := by
    intro len nto spo tx ho ke x4 s0 s1 hv
    unfold wp_X5_readAct_110 at hv
    refine V_iast hc 11 rfl (by decide) hv dX5_readAct_110 [oB hM 5 [.ref zA, .ref spA, .ref svA, .int (iI nsv), .ref soA, .ref ikA, .ref txA, .int (iI len), .int (iI thr), .int (iI nvi), .ref viA, .int (iI low), .int (iI high), .ref srA, .ref frA, .ref toA, .ref hoA, .ref keA, .int (iI nto), .int (iI spo), .int (iI mos)], aI t zA 646 z, aI t spA 646 sp, aI t svA 3876 sv, aI t soA 1292 so, aZ t ikA 2 ik, aI t txA 60 tx, aI t viA 120 vi, aI t srA 120 sr, aI t frA 122 fr, aI t toA 122 to, aI t hoA 31 (uI ho (s1.toNat) s0), aI t keA 31 ke] rfl (fun hv => ?_)
    refine V_aload_n hc dX5_readAct_111 0 rfl ?_
    refine V_get (C := RX5) (T := TX5) (N := 21) hc i_X5_readAct_5 0 rfl rfl 17 (by decide) m_X5_readAct_44 rfl dX5_readAct_112 ?_
    refine V_aload_n hc dX5_readAct_115 0 rfl ?_
    refine V_get (C := RX5) (T := TX5) (N := 21) hc i_X5_readAct_5 0 rfl rfl 18 (by decide) m_X5_readAct_152 rfl dX5_readAct_116 ?_
    refine V_iload hc dX5_readAct_119 1 rfl ?_
    refine V_iast hc 12 rfl (by decide) hv dX5_readAct_121 [oB hM 5 [.ref zA, .ref spA, .ref svA, .int (iI nsv), .ref soA, .ref ikA, .ref txA, .int (iI len), .int (iI thr), .int (iI nvi), .ref viA, .int (iI low), .int (iI high), .ref srA, .ref frA, .ref toA, .ref hoA, .ref keA, .int (iI nto), .int (iI spo), .int (iI mos)], aI t zA 646 z, aI t spA 646 sp, aI t svA 3876 sv, aI t soA 1292 so, aZ t ikA 2 ik, aI t txA 60 tx, aI t viA 120 vi, aI t srA 120 sr, aI t frA 122 fr, aI t toA 122 to, aI t hoA 31 (uI ho (s1.toNat) s0), aI t keA 31 (uI ke (nto.toNat) x4)] rfl (fun hv => ?_)
    refine V_aload_n hc dX5_readAct_122 0 rfl ?_
    refine V_dup hc dX5_readAct_123 rfl ?_
    refine V_get (C := RX5) (T := TX5) (N := 21) hc i_X5_readAct_5 0 rfl rfl 18 (by decide) m_X5_readAct_152 rfl dX5_readAct_124 ?_
    refine V_iconst hc dX5_readAct_127 ?_
    refine V_iadd hc dX5_readAct_128 ?_
    refine V_puti (C := RX5) (T := TX5) (N := 21) hc i_X5_readAct_5 0 rfl rfl 18 (by decide) m_X5_readAct_152 tyX5 tyX5_ok nmX5 rfl (by decide +kernel) (Nat.le_of_ble_eq_true rfl) dX5_readAct_129 [oB hM 5 [.ref zA, .ref spA, .ref svA, .int (iI nsv), .ref soA, .ref ikA, .ref txA, .int (iI len), .int (iI thr), .int (iI nvi), .ref viA, .int (iI low), .int (iI high), .ref srA, .ref frA, .ref toA, .ref hoA, .ref keA, .int (iI (nto + 1)), .int (iI spo), .int (iI mos)], aI t zA 646 z, aI t spA 646 sp, aI t svA 3876 sv, aI t soA 1292 so, aZ t ikA 2 ik, aI t txA 60 tx, aI t viA 120 vi, aI t srA 120 sr, aI t frA 122 fr, aI t toA 122 to, aI t hoA 31 (uI ho (s1.toNat) s0), aI t keA 31 (uI ke (nto.toNat) x4)] rfl ?_
    refine V_iconst hc dX5_readAct_132 ?_
    exact V_zret hc hr (nto + 1, spo, uI ho (s1.toNat) s0, uI ke (nto.toNat) x4) ⟨by decide, hv⟩ rfl dX5_readAct_133
  have C_75 : ∀ (len : Int) (nto : Int) (spo : Int) (tx : Nat → Int) (ho : Nat → Int) (ke : Nat → Int) (x1 : Int) (x2 : Int) (s0 : Int), wp_X5_readAct_75 len nto spo tx ho ke x1 x2 s0 Q → V p l e rm_X5_readAct s m args below meth c D A 5 0 0 (MQ below (QI D A (W1_X5_readAct t hM zA spA svA soA ikA txA viA srA frA toA hoA keA nsv len thr nvi low high mos z sp sv so ik tx vi sr fr to) (po_X5_readAct Q)) args s 0 0 A) 75 [(0, .ref hM), (1, .int (iI x1)), (2, .int (iI x2))] [.int (iI s0)] [oB hM 5 [.ref zA, .ref spA, .ref svA, .int (iI nsv), .ref soA, .ref ikA, .ref txA, .int (iI len), .int (iI thr), .int (iI nvi), .ref viA, .int (iI low), .int (iI high), .ref srA, .ref frA, .ref toA, .ref hoA, .ref keA, .int (iI nto), .int (iI spo), .int (iI mos)], aI t zA 646 z, aI t spA 646 sp, aI t svA 3876 sv, aI t soA 1292 so, aZ t ikA 2 ik, aI t txA 60 tx, aI t viA 120 vi, aI t srA 120 sr, aI t frA 122 fr, aI t toA 122 to, aI t hoA 31 ho, aI t keA 31 ke] := by
    intro len nto spo tx ho ke x1 x2 s0 hv
    unfold wp_X5_readAct_75 at hv
    refine V_istore hc dX5_readAct_75 [(4, .int (iI s0)), (0, .ref hM), (1, .int (iI x1)), (2, .int (iI x2))] (by decide) rfl ?_
    refine V_iload hc dX5_readAct_77 0 rfl ?_
    refine V_iconst hc dX5_readAct_79 ?_
    refine V_icmp_ne (tgt := 85) hc dX5_readAct_80 (by decide) ⟨hv.1, by decide, hv.2⟩ (fun hv => ?_) (fun hv => ?_)
    · refine V_aload_n hc dX5_readAct_85 1 rfl ?_
      refine V_get (C := RX5) (T := TX5) (N := 21) hc i_X5_readAct_5 0 rfl rfl 16 (by decide) m_X5_readAct_41 rfl dX5_readAct_86 ?_
      refine V_aload_n hc dX5_readAct_89 1 rfl ?_
      refine V_get (C := RX5) (T := TX5) (N := 21) hc i_X5_readAct_5 0 rfl rfl 18 (by decide) m_X5_readAct_152 rfl dX5_readAct_90 ?_
      refine V_iload_n hc dX5_readAct_93 2 rfl ?_
      refine V_if_eq (tgt := 101) hc dX5_readAct_94 (by decide) hv (fun hv => ?_) (fun hv => ?_)
      · refine V_iload_n hc dX5_readAct_101 3 rfl ?_
        refine V_if_eq (tgt := 109) hc dX5_readAct_102 (by decide) hv (fun hv => ?_) (fun hv => ?_)
        · refine V_iconst hc dX5_readAct_109 ?_
          refine V_lv [1, 0] [(0, .ref hM), (4, .int (iI s0))] rfl ?_
          exact C_110 len nto spo tx ho ke s0 2 nto hv
        · refine V_iconst hc dX5_readAct_105 ?_
          refine V_goto (tgt := 110) hc dX5_readAct_106 (by decide) ?_
          refine V_lv [1, 0] [(0, .ref hM), (4, .int (iI s0))] rfl ?_
          exact C_110 len nto spo tx ho ke s0 1 nto hv
      · refine V_iconst hc dX5_readAct_97 ?_
        refine V_goto (tgt := 110) hc dX5_readAct_98 (by decide) ?_
        refine V_lv [1, 0] [(0, .ref hM), (4, .int (iI s0))] rfl ?_
        exact C_110 len nto spo tx ho ke s0 0 nto hv
    · refine V_iconst hc dX5_readAct_83 ?_
      exact V_zret hc hr (nto, spo, ho, ke) ⟨by decide, hv⟩ rfl dX5_readAct_84
  have C_63 : ∀ (len : Int) (nto : Int) (spo : Int) (tx : Nat → Int) (ho : Nat → Int) (ke : Nat → Int) (x1 : Int) (x2 : Int) (x3 : Int), wp_X5_readAct_63 len nto spo tx ho ke x1 x2 x3 Q → V p l e rm_X5_readAct s m args below meth c D A 5 0 0 (MQ below (QI D A (W1_X5_readAct t hM zA spA svA soA ikA txA viA srA frA toA hoA keA nsv len thr nvi low high mos z sp sv so ik tx vi sr fr to) (po_X5_readAct Q)) args s 0 0 A) 63 [(0, .ref hM), (1, .int (iI x1)), (2, .int (iI x2)), (3, .int (iI x3))] [] [oB hM 5 [.ref zA, .ref spA, .ref svA, .int (iI nsv), .ref soA, .ref ikA, .ref txA, .int (iI len), .int (iI thr), .int (iI nvi), .ref viA, .int (iI low), .int (iI high), .ref srA, .ref frA, .ref toA, .ref hoA, .ref keA, .int (iI nto), .int (iI spo), .int (iI mos)], aI t zA 646 z, aI t spA 646 sp, aI t svA 3876 sv, aI t soA 1292 so, aZ t ikA 2 ik, aI t txA 60 tx, aI t viA 120 vi, aI t srA 120 sr, aI t frA 122 fr, aI t toA 122 to, aI t hoA 31 ho, aI t keA 31 ke] := by
    intro len nto spo tx ho ke x1 x2 x3 hv
    unfold wp_X5_readAct_63 at hv
    refine V_iload_n hc dX5_readAct_63 3 rfl ?_
    refine V_if_eq (tgt := 71) hc dX5_readAct_64 (by decide) hv (fun hv => ?_) (fun hv => ?_)
    · refine V_aload_n hc dX5_readAct_71 0 rfl ?_
      refine V_callVI (As := []) hc (wc := [oB hM 5 [.ref zA, .ref spA, .ref svA, .int (iI nsv), .ref soA, .ref ikA, .ref txA, .int (iI len), .int (iI thr), .int (iI nvi), .ref viA, .int (iI low), .int (iI high), .ref srA, .ref frA, .ref toA, .ref hoA, .ref keA, .int (iI nto), .int (iI spo), .int (iI mos)], aI t zA 646 z, aI t spA 646 sp, aI t svA 3876 sv, aI t soA 1292 so, aZ t ikA 2 ik, aI t txA 60 tx, aI t viA 120 vi, aI t srA 120 sr, aI t frA 122 fr, aI t toA 122 to, aI t hoA 31 ho, aI t keA 31 ke]) (wr := []) (pmI [0, 1, 2, 3, 4, 5, 6, 7, 8, 9, 10, 11, 12] 13 rfl (by decide +kernel) rfl) rfl rfl (met_X5_readKey l D t hM zA spA svA soA ikA txA viA srA frA toA hoA keA nsv len thr nvi low high nto spo mos z sp sv so ik tx vi sr fr to ho ke _ hv) rfl gX5_readAct_X5_readKey rfl ⟨rfl, rfl⟩ ok_X5_readKey (by decide) (Nat.le_of_ble_eq_true rfl) dX5_readAct_72 (by decide) (fun r_4 u9 hv => ?_)
      obtain ⟨spo_4, h9⟩ : ∃ z, z = u9 := ⟨_, rfl⟩
      subst h9
      try dsimp only at hv
      refine V_perm (ws1 := [oB hM 5 [.ref zA, .ref spA, .ref svA, .int (iI nsv), .ref soA, .ref ikA, .ref txA, .int (iI len), .int (iI thr), .int (iI nvi), .ref viA, .int (iI low), .int (iI high), .ref srA, .ref frA, .ref toA, .ref hoA, .ref keA, .int (iI nto), .int (iI spo_4), .int (iI mos)], aI t zA 646 z, aI t spA 646 sp, aI t svA 3876 sv, aI t soA 1292 so, aZ t ikA 2 ik, aI t txA 60 tx, aI t viA 120 vi, aI t srA 120 sr, aI t frA 122 fr, aI t toA 122 to, aI t hoA 31 ho, aI t keA 31 ke]) (pmI [0, 1, 2, 3, 4, 5, 6, 7, 8, 9, 10, 11, 12] 13 rfl (by decide +kernel) rfl) ?_
      refine V_lv [0, 1, 2] [(0, .ref hM), (1, .int (iI x1)), (2, .int (iI x2))] rfl ?_
      exact C_75 len nto spo_4 tx ho ke x1 x2 r_4 hv
    · refine V_iconst hc dX5_readAct_67 ?_
      refine V_goto (tgt := 75) hc dX5_readAct_68 (by decide) ?_
      refine V_lv [0, 1, 2] [(0, .ref hM), (1, .int (iI x1)), (2, .int (iI x2))] rfl ?_
      exact C_75 len nto spo tx ho ke x1 x2 0 hv
  have C_48 : ∀ (len : Int) (nto : Int) (spo : Int) (tx : Nat → Int) (ho : Nat → Int) (ke : Nat → Int) (x1 : Int) (x2 : Int) (s0 : Int), wp_X5_readAct_48 len nto spo tx ho ke x1 x2 s0 Q → V p l e rm_X5_readAct s m args below meth c D A 5 0 0 (MQ below (QI D A (W1_X5_readAct t hM zA spA svA soA ikA txA viA srA frA toA hoA keA nsv len thr nvi low high mos z sp sv so ik tx vi sr fr to) (po_X5_readAct Q)) args s 0 0 A) 48 [(0, .ref hM), (1, .int (iI x1)), (2, .int (iI x2))] [.int (iI s0)] [oB hM 5 [.ref zA, .ref spA, .ref svA, .int (iI nsv), .ref soA, .ref ikA, .ref txA, .int (iI len), .int (iI thr), .int (iI nvi), .ref viA, .int (iI low), .int (iI high), .ref srA, .ref frA, .ref toA, .ref hoA, .ref keA, .int (iI nto), .int (iI spo), .int (iI mos)], aI t zA 646 z, aI t spA 646 sp, aI t svA 3876 sv, aI t soA 1292 so, aZ t ikA 2 ik, aI t txA 60 tx, aI t viA 120 vi, aI t srA 120 sr, aI t frA 122 fr, aI t toA 122 to, aI t hoA 31 ho, aI t keA 31 ke] := by
    intro len nto spo tx ho ke x1 x2 s0 hv
    unfold wp_X5_readAct_48 at hv
    refine V_istore_n hc dX5_readAct_48 [(3, .int (iI s0)), (0, .ref hM), (1, .int (iI x1)), (2, .int (iI x2))] (by decide) rfl ?_
    refine V_iload_n hc dX5_readAct_49 2 rfl ?_
    refine V_if_ne (tgt := 63) hc dX5_readAct_50 (by decide) hv (fun hv => ?_) (fun hv => ?_)
    · refine V_lv [1, 2, 3, 0] [(0, .ref hM), (1, .int (iI x1)), (2, .int (iI x2)), (3, .int (iI s0))] rfl ?_
      exact C_63 len nto spo tx ho ke x1 x2 s0 hv
    · refine V_iload_n hc dX5_readAct_53 3 rfl ?_
      refine V_if_ne (tgt := 63) hc dX5_readAct_54 (by decide) hv (fun hv => ?_) (fun hv => ?_)
      · refine V_lv [1, 2, 3, 0] [(0, .ref hM), (1, .int (iI x1)), (2, .int (iI x2)), (3, .int (iI s0))] rfl ?_
        exact C_63 len nto spo tx ho ke x1 x2 s0 hv
      · refine V_iload_n hc dX5_readAct_57 0 rfl ?_
        refine V_if_ne (tgt := 63) hc dX5_readAct_58 (by decide) hv (fun hv => ?_) (fun hv => ?_)
        · refine V_lv [1, 2, 3, 0] [(0, .ref hM), (1, .int (iI x1)), (2, .int (iI x2)), (3, .int (iI s0))] rfl ?_
          exact C_63 len nto spo tx ho ke x1 x2 s0 hv
        · refine V_iconst hc dX5_readAct_61 ?_
          exact V_zret hc hr (nto, spo, ho, ke) ⟨by decide, hv⟩ rfl dX5_readAct_62
  have C_47 : ∀ (len : Int) (nto : Int) (spo : Int) (tx : Nat → Int) (ho : Nat → Int) (ke : Nat → Int) (x1 : Int) (x2 : Int), wp_X5_readAct_47 len nto spo tx ho ke x1 x2 Q → V p l e rm_X5_readAct s m args below meth c D A 5 0 0 (MQ below (QI D A (W1_X5_readAct t hM zA spA svA soA ikA txA viA srA frA toA hoA keA nsv len thr nvi low high mos z sp sv so ik tx vi sr fr to) (po_X5_readAct Q)) args s 0 0 A) 47 [(0, .ref hM), (1, .int (iI x1)), (2, .int (iI x2))] [] [oB hM 5 [.ref zA, .ref spA, .ref svA, .int (iI nsv), .ref soA, .ref ikA, .ref txA, .int (iI len), .int (iI thr), .int (iI nvi), .ref viA, .int (iI low), .int (iI high), .ref srA, .ref frA, .ref toA, .ref hoA, .ref keA, .int (iI nto), .int (iI spo), .int (iI mos)], aI t zA 646 z, aI t spA 646 sp, aI t svA 3876 sv, aI t soA 1292 so, aZ t ikA 2 ik, aI t txA 60 tx, aI t viA 120 vi, aI t srA 120 sr, aI t frA 122 fr, aI t toA 122 to, aI t hoA 31 ho, aI t keA 31 ke] := by
    intro len nto spo tx ho ke x1 x2 hv
    unfold wp_X5_readAct_47 at hv
    refine V_iconst hc dX5_readAct_47 ?_
    exact C_48 len nto spo tx ho ke x1 x2 0 hv
  have C_25 : ∀ (len : Int) (nto : Int) (spo : Int) (tx : Nat → Int) (ho : Nat → Int) (ke : Nat → Int) (x1 : Int) (s0 : Int), wp_X5_readAct_25 len nto spo tx ho ke x1 s0 Q → V p l e rm_X5_readAct s m args below meth c D A 5 0 0 (MQ below (QI D A (W1_X5_readAct t hM zA spA svA soA ikA txA viA srA frA toA hoA keA nsv len thr nvi low high mos z sp sv so ik tx vi sr fr to) (po_X5_readAct Q)) args s 0 0 A) 25 [(0, .ref hM), (1, .int (iI x1))] [.int (iI s0)] [oB hM 5 [.ref zA, .ref spA, .ref svA, .int (iI nsv), .ref soA, .ref ikA, .ref txA, .int (iI len), .int (iI thr), .int (iI nvi), .ref viA, .int (iI low), .int (iI high), .ref srA, .ref frA, .ref toA, .ref hoA, .ref keA, .int (iI nto), .int (iI spo), .int (iI mos)], aI t zA 646 z, aI t spA 646 sp, aI t svA 3876 sv, aI t soA 1292 so, aZ t ikA 2 ik, aI t txA 60 tx, aI t viA 120 vi, aI t srA 120 sr, aI t frA 122 fr, aI t toA 122 to, aI t hoA 31 ho, aI t keA 31 ke] := by
    intro len nto spo tx ho ke x1 s0 hv
    unfold wp_X5_readAct_25 at hv
    refine V_istore_n hc dX5_readAct_25 [(2, .int (iI s0)), (0, .ref hM), (1, .int (iI x1))] (by decide) rfl ?_
    refine V_iload_n hc dX5_readAct_26 2 rfl ?_
    refine V_if_ne (tgt := 47) hc dX5_readAct_27 (by decide) hv (fun hv => ?_) (fun hv => ?_)
    · refine V_lv [1, 2, 0] [(0, .ref hM), (1, .int (iI x1)), (2, .int (iI s0))] rfl ?_
      exact C_47 len nto spo tx ho ke x1 s0 hv
    · refine V_iload_n hc dX5_readAct_30 0 rfl ?_
      refine V_if_ne (tgt := 47) hc dX5_readAct_31 (by decide) hv (fun hv => ?_) (fun hv => ?_)
      · refine V_lv [1, 2, 0] [(0, .ref hM), (1, .int (iI x1)), (2, .int (iI s0))] rfl ?_
        exact C_47 len nto spo tx ho ke x1 s0 hv
      · refine V_aload_n hc dX5_readAct_34 1 rfl ?_
        refine V_bipush hc dX5_readAct_35 (by decide) ?_
        refine V_callVI (As := [.int (iI 46)]) hc (wc := [oB hM 5 [.ref zA, .ref spA, .ref svA, .int (iI nsv), .ref soA, .ref ikA, .ref txA, .int (iI len), .int (iI thr), .int (iI nvi), .ref viA, .int (iI low), .int (iI high), .ref srA, .ref frA, .ref toA, .ref hoA, .ref keA, .int (iI nto), .int (iI spo), .int (iI mos)], aI t zA 646 z, aI t spA 646 sp, aI t svA 3876 sv, aI t soA 1292 so, aZ t ikA 2 ik, aI t txA 60 tx, aI t viA 120 vi, aI t srA 120 sr, aI t frA 122 fr, aI t toA 122 to, aI t hoA 31 ho, aI t keA 31 ke]) (wr := []) (pmI [0, 1, 2, 3, 4, 5, 6, 7, 8, 9, 10, 11, 12] 13 rfl (by decide +kernel) rfl) rfl rfl (met_X5_takes l D t hM zA spA svA soA ikA txA viA srA frA toA hoA keA nsv len thr nvi low high nto spo mos z sp sv so ik tx vi sr fr to ho ke 46 _ hv) rfl gX5_readAct_X5_takes rfl ⟨rfl, rfl⟩ ok_X5_takes (by decide) (Nat.le_of_ble_eq_true rfl) dX5_readAct_37 (by decide) (fun r_3 u9 hv => ?_)
        obtain ⟨spo_3, h9⟩ : ∃ z, z = u9 := ⟨_, rfl⟩
        subst h9
        try dsimp only at hv
        refine V_perm (ws1 := [oB hM 5 [.ref zA, .ref spA, .ref svA, .int (iI nsv), .ref soA, .ref ikA, .ref txA, .int (iI len), .int (iI thr), .int (iI nvi), .ref viA, .int (iI low), .int (iI high), .ref srA, .ref frA, .ref toA, .ref hoA, .ref keA, .int (iI nto), .int (iI spo_3), .int (iI mos)], aI t zA 646 z, aI t spA 646 sp, aI t svA 3876 sv, aI t soA 1292 so, aZ t ikA 2 ik, aI t txA 60 tx, aI t viA 120 vi, aI t srA 120 sr, aI t frA 122 fr, aI t toA 122 to, aI t hoA 31 ho, aI t keA 31 ke]) (pmI [0, 1, 2, 3, 4, 5, 6, 7, 8, 9, 10, 11, 12] 13 rfl (by decide +kernel) rfl) ?_
        refine V_if_eq (tgt := 47) hc dX5_readAct_40 (by decide) hv (fun hv => ?_) (fun hv => ?_)
        · refine V_lv [1, 2, 0] [(0, .ref hM), (1, .int (iI x1)), (2, .int (iI s0))] rfl ?_
          exact C_47 len nto spo_3 tx ho ke x1 s0 hv
        · refine V_iconst hc dX5_readAct_43 ?_
          refine V_goto (tgt := 48) hc dX5_readAct_44 (by decide) ?_
          refine V_lv [1, 2, 0] [(0, .ref hM), (1, .int (iI x1)), (2, .int (iI s0))] rfl ?_
          exact C_48 len nto spo_3 tx ho ke x1 s0 1 hv
  have C_24 : ∀ (len : Int) (nto : Int) (spo : Int) (tx : Nat → Int) (ho : Nat → Int) (ke : Nat → Int) (x1 : Int), wp_X5_readAct_24 len nto spo tx ho ke x1 Q → V p l e rm_X5_readAct s m args below meth c D A 5 0 0 (MQ below (QI D A (W1_X5_readAct t hM zA spA svA soA ikA txA viA srA frA toA hoA keA nsv len thr nvi low high mos z sp sv so ik tx vi sr fr to) (po_X5_readAct Q)) args s 0 0 A) 24 [(0, .ref hM), (1, .int (iI x1))] [] [oB hM 5 [.ref zA, .ref spA, .ref svA, .int (iI nsv), .ref soA, .ref ikA, .ref txA, .int (iI len), .int (iI thr), .int (iI nvi), .ref viA, .int (iI low), .int (iI high), .ref srA, .ref frA, .ref toA, .ref hoA, .ref keA, .int (iI nto), .int (iI spo), .int (iI mos)], aI t zA 646 z, aI t spA 646 sp, aI t svA 3876 sv, aI t soA 1292 so, aZ t ikA 2 ik, aI t txA 60 tx, aI t viA 120 vi, aI t srA 120 sr, aI t frA 122 fr, aI t toA 122 to, aI t hoA 31 ho, aI t keA 31 ke] := by
    intro len nto spo tx ho ke x1 hv
    unfold wp_X5_readAct_24 at hv
    refine V_iconst hc dX5_readAct_24 ?_
    exact C_25 len nto spo tx ho ke x1 0 hv
  refine V_lv [0] [(0, .ref hM)] rfl ?_
  unfold wp_X5_readAct at hv
  refine V_aload_n hc dX5_readAct_0 0 rfl ?_
  refine V_bipush hc dX5_readAct_1 (by decide) ?_
  refine V_callVI (As := [.int (iI 43)]) hc (wc := [oB hM 5 [.ref zA, .ref spA, .ref svA, .int (iI nsv), .ref soA, .ref ikA, .ref txA, .int (iI len), .int (iI thr), .int (iI nvi), .ref viA, .int (iI low), .int (iI high), .ref srA, .ref frA, .ref toA, .ref hoA, .ref keA, .int (iI nto), .int (iI spo), .int (iI mos)], aI t zA 646 z, aI t spA 646 sp, aI t svA 3876 sv, aI t soA 1292 so, aZ t ikA 2 ik, aI t txA 60 tx, aI t viA 120 vi, aI t srA 120 sr, aI t frA 122 fr, aI t toA 122 to, aI t hoA 31 ho, aI t keA 31 ke]) (wr := []) (pmI [0, 1, 2, 3, 4, 5, 6, 7, 8, 9, 10, 11, 12] 13 rfl (by decide +kernel) rfl) rfl rfl (met_X5_takes l D t hM zA spA svA soA ikA txA viA srA frA toA hoA keA nsv len thr nvi low high nto spo mos z sp sv so ik tx vi sr fr to ho ke 43 _ hv) rfl gX5_readAct_X5_takes rfl ⟨rfl, rfl⟩ ok_X5_takes (by decide) (Nat.le_of_ble_eq_true rfl) dX5_readAct_3 (by decide) (fun r_1 u9 hv => ?_)
  obtain ⟨spo_1, h9⟩ : ∃ z, z = u9 := ⟨_, rfl⟩
  subst h9
  try dsimp only at hv
  refine V_perm (ws1 := [oB hM 5 [.ref zA, .ref spA, .ref svA, .int (iI nsv), .ref soA, .ref ikA, .ref txA, .int (iI len), .int (iI thr), .int (iI nvi), .ref viA, .int (iI low), .int (iI high), .ref srA, .ref frA, .ref toA, .ref hoA, .ref keA, .int (iI nto), .int (iI spo_1), .int (iI mos)], aI t zA 646 z, aI t spA 646 sp, aI t svA 3876 sv, aI t soA 1292 so, aZ t ikA 2 ik, aI t txA 60 tx, aI t viA 120 vi, aI t srA 120 sr, aI t frA 122 fr, aI t toA 122 to, aI t hoA 31 ho, aI t keA 31 ke]) (pmI [0, 1, 2, 3, 4, 5, 6, 7, 8, 9, 10, 11, 12] 13 rfl (by decide +kernel) rfl) ?_
  refine V_istore_n hc dX5_readAct_6 [(1, .int (iI r_1)), (0, .ref hM)] (by decide) rfl ?_
  refine V_iload_n hc dX5_readAct_7 0 rfl ?_
  refine V_if_ne (tgt := 24) hc dX5_readAct_8 (by decide) hv (fun hv => ?_) (fun hv => ?_)
  · refine V_lv [1, 0] [(0, .ref hM), (1, .int (iI r_1))] rfl ?_
    exact C_24 len nto spo_1 tx ho ke r_1 hv
  · refine V_aload_n hc dX5_readAct_11 1 rfl ?_
    refine V_bipush hc dX5_readAct_12 (by decide) ?_
    refine V_callVI (As := [.int (iI 45)]) hc (wc := [oB hM 5 [.ref zA, .ref spA, .ref svA, .int (iI nsv), .ref soA, .ref ikA, .ref txA, .int (iI len), .int (iI thr), .int (iI nvi), .ref viA, .int (iI low), .int (iI high), .ref srA, .ref frA, .ref toA, .ref hoA, .ref keA, .int (iI nto), .int (iI spo_1), .int (iI mos)], aI t zA 646 z, aI t spA 646 sp, aI t svA 3876 sv, aI t soA 1292 so, aZ t ikA 2 ik, aI t txA 60 tx, aI t viA 120 vi, aI t srA 120 sr, aI t frA 122 fr, aI t toA 122 to, aI t hoA 31 ho, aI t keA 31 ke]) (wr := []) (pmI [0, 1, 2, 3, 4, 5, 6, 7, 8, 9, 10, 11, 12] 13 rfl (by decide +kernel) rfl) rfl rfl (met_X5_takes l D t hM zA spA svA soA ikA txA viA srA frA toA hoA keA nsv len thr nvi low high nto spo_1 mos z sp sv so ik tx vi sr fr to ho ke 45 _ hv) rfl gX5_readAct_X5_takes rfl ⟨rfl, rfl⟩ ok_X5_takes (by decide) (Nat.le_of_ble_eq_true rfl) dX5_readAct_14 (by decide) (fun r_2 u9 hv => ?_)
    obtain ⟨spo_2, h9⟩ : ∃ z, z = u9 := ⟨_, rfl⟩
    subst h9
    try dsimp only at hv
    refine V_perm (ws1 := [oB hM 5 [.ref zA, .ref spA, .ref svA, .int (iI nsv), .ref soA, .ref ikA, .ref txA, .int (iI len), .int (iI thr), .int (iI nvi), .ref viA, .int (iI low), .int (iI high), .ref srA, .ref frA, .ref toA, .ref hoA, .ref keA, .int (iI nto), .int (iI spo_2), .int (iI mos)], aI t zA 646 z, aI t spA 646 sp, aI t svA 3876 sv, aI t soA 1292 so, aZ t ikA 2 ik, aI t txA 60 tx, aI t viA 120 vi, aI t srA 120 sr, aI t frA 122 fr, aI t toA 122 to, aI t hoA 31 ho, aI t keA 31 ke]) (pmI [0, 1, 2, 3, 4, 5, 6, 7, 8, 9, 10, 11, 12] 13 rfl (by decide +kernel) rfl) ?_
    refine V_if_eq (tgt := 24) hc dX5_readAct_17 (by decide) hv (fun hv => ?_) (fun hv => ?_)
    · refine V_lv [1, 0] [(0, .ref hM), (1, .int (iI r_1))] rfl ?_
      exact C_24 len nto spo_2 tx ho ke r_1 hv
    · refine V_iconst hc dX5_readAct_20 ?_
      refine V_goto (tgt := 25) hc dX5_readAct_21 (by decide) ?_
      refine V_lv [1, 0] [(0, .ref hM), (1, .int (iI r_1))] rfl ?_
      exact C_25 len nto spo_2 tx ho ke r_1 1 hv
abbrev W1_X5_readText (t : Nat → ClassId) (hM : Nat) (zA : Nat) (spA : Nat) (svA : Nat) (soA : Nat) (ikA : Nat) (txA : Nat) (viA : Nat) (srA : Nat) (frA : Nat) (toA : Nat) (hoA : Nat) (keA : Nat) (nsv : Int) (len : Int) (thr : Int) (nvi : Int) (low : Int) (high : Int) (mos : Int) (z : Nat → Int) (sp : Nat → Int) (sv : Nat → Int) (so : Nat → Int) (ik : Nat → Int) (tx : Nat → Int) (vi : Nat → Int) (sr : Nat → Int) (fr : Nat → Int) (to : Nat → Int) (u : (Int) × (Int) × (Nat → Int) × (Nat → Int)) : va_W := [oB hM 5 [.ref zA, .ref spA, .ref svA, .int (iI nsv), .ref soA, .ref ikA, .ref txA, .int (iI len), .int (iI thr), .int (iI nvi), .ref viA, .int (iI low), .int (iI high), .ref srA, .ref frA, .ref toA, .ref hoA, .ref keA, .int (iI u.1), .int (iI u.2.1), .int (iI mos)], aI t zA 646 z, aI t spA 646 sp, aI t svA 3876 sv, aI t soA 1292 so, aZ t ikA 2 ik, aI t txA 60 tx, aI t viA 120 vi, aI t srA 120 sr, aI t frA 122 fr, aI t toA 122 to, aI t hoA 31 u.2.2.1, aI t keA 31 u.2.2.2]
abbrev po_X5_readText (Q : Int → (Int) → (Int) → (Nat → Int) → (Nat → Int) → Prop) (r : Int) (u : (Int) × (Int) × (Nat → Int) × (Nat → Int)) : Prop := Q r u.1 u.2.1 u.2.2.1 u.2.2.2
abbrev rm_X5_readText : Room := { frames := 4, cells := 0, slots := 0, locals := 90 }
def wp_X5_readText_36 (len : Int) (nto : Int) (spo : Int) (tx : Nat → Int) (ho : Nat → Int) (ke : Nat → Int) (x1 : Int) (Q : Int → (Int) → (Int) → (Nat → Int) → (Nat → Int) → Prop) : Prop := inR x1 ∧ (x1 = 0 → Q 0 nto spo ho ke) ∧ (¬ (x1 = 0) → inR spo ∧ inR len ∧ (spo ≠ len → Q 0 nto spo ho ke) ∧ (¬ (spo ≠ len) → Q 1 nto spo ho ke))
def wp_X5_readText_15 (len : Int) (tx : Nat → Int) (Q : Int → (Int) → (Int) → (Nat → Int) → (Nat → Int) → Prop) (K_15 : (Int) → (Int) → (Nat → Int) → (Nat → Int) → Int → Prop) (nto : Int) (spo : Int) (ho : Nat → Int) (ke : Nat → Int) (x1 : Int) : Prop := inR x1 ∧ (x1 = 0 → wp_X5_readText_36 len nto spo tx ho ke x1 Q) ∧ (¬ (x1 = 0) → wp_X5_takes len spo tx 59 (fun r_2 spo_2 => inR r_2 ∧ (r_2 = 0 → wp_X5_readText_36 len nto spo_2 tx ho ke x1 Q) ∧ (¬ (r_2 = 0) → wp_X5_readAct len nto spo_2 tx ho ke (fun r_3 nto_3 spo_3 ho_3 ke_3 => K_15 nto_3 spo_3 ho_3 ke_3 r_3))))
def wp_X5_readText (len : Int) (nto : Int) (spo : Int) (tx : Nat → Int) (ho : Nat → Int) (ke : Nat → Int) (Q : Int → (Int) → (Int) → (Nat → Int) → (Nat → Int) → Prop) : Prop := wp_X5_readAct len 0 0 tx ho ke (fun r_1 nto_1 spo_1 ho_1 ke_1 => (∃ n, lq5 (wp_X5_readText_15 len tx Q) n nto_1 spo_1 ho_1 ke_1 r_1))
theorem m_X5_readText_140 : Cond.fieldLink RX5 140 "BackgroundRebuildModel" "spot" "I" ∈ wsX5_readText := by decide +kernel
theorem m_X5_readText_152 : Cond.fieldLink RX5 152 "BackgroundRebuildModel" "toldMany" "I" ∈ wsX5_readText := by decide +kernel
theorem m_X5_readText_137 : Cond.fieldLink RX5 137 "BackgroundRebuildModel" "length" "I" ∈ wsX5_readText := by decide +kernel
theorem i_X5_readText_5 : ∀ w ∈ u_ws RX5 TX5 21, w ∈ wsX5_readText := by decide +kernel
theorem ok_X5_readText : yX5_readText.cls = RX5 ∧ yX5_readText.cls ≠ "java/lang/invoke/MethodHandle" ∧ yX5_readText.cls ≠ "java/lang/invoke/VarHandle" ∧ (parseMethodDescriptor yX5_readText.desc).map (fun d => d.parameters.length) = some 0 := by decide +kernel
set_option maxHeartbeats 4000000 in
set_option maxRecDepth 100000 in
theorem met_X5_readText (l : Launch) (D : va_G) (t : Nat → ClassId) (hM : Nat) (zA : Nat) (spA : Nat) (svA : Nat) (soA : Nat) (ikA : Nat) (txA : Nat) (viA : Nat) (srA : Nat) (frA : Nat) (toA : Nat) (hoA : Nat) (keA : Nat) (nsv : Int) (len : Int) (thr : Int) (nvi : Int) (low : Int) (high : Int) (nto : Int) (spo : Int) (mos : Int) (z : Nat → Int) (sp : Nat → Int) (sv : Nat → Int) (so : Nat → Int) (ik : Nat → Int) (tx : Nat → Int) (vi : Nat → Int) (sr : Nat → Int) (fr : Nat → Int) (to : Nat → Int) (ho : Nat → Int) (ke : Nat → Int) (Q : Int → (Int) → (Int) → (Nat → Int) → (Nat → Int) → Prop) (hv : wp_X5_readText len nto spo tx ho ke Q) : MI l D t yX5_readText wsX5_readText rm_X5_readText [.ref hM] [oB hM 5 [.ref zA, .ref spA, .ref svA, .int (iI nsv), .ref soA, .ref ikA, .ref txA, .int (iI len), .int (iI thr), .int (iI nvi), .ref viA, .int (iI low), .int (iI high), .ref srA, .ref frA, .ref toA, .ref hoA, .ref keA, .int (iI nto), .int (iI spo), .int (iI mos)], aI t zA 646 z, aI t spA 646 sp, aI t svA 3876 sv, aI t soA 1292 so, aZ t ikA 2 ik, aI t txA 60 tx, aI t viA 120 vi, aI t srA 120 sr, aI t frA 122 fr, aI t toA 122 to, aI t hoA 31 ho, aI t keA 31 ke] (W1_X5_readText t hM zA spA svA soA ikA txA viA srA frA toA hoA keA nsv len thr nvi low high mos z sp sv so ik tx vi sr fr to) (po_X5_readText Q) 0 0 := by
  refine M_ofz (cc := cX5_readText) (nL := 2) (by decide) rfl (Nat.le_of_ble_eq_true rfl) ?_
  intro p e s m args below meth c A hc hr
  have C_36 : ∀ (len : Int) (nto : Int) (spo : Int) (tx : Nat → Int) (ho : Nat → Int) (ke : Nat → Int) (x1 : Int), wp_X5_readText_36 len nto spo tx ho ke x1 Q → V p l e rm_X5_readText s m args below meth c D A 2 0 0 (MQ below (QI D A (W1_X5_readText t hM zA spA svA soA ikA txA viA srA frA toA hoA keA nsv len thr nvi low high mos z sp sv so ik tx vi sr fr to) (po_X5_readText Q)) args s 0 0 A) 36 [(0, .ref hM), (1, .int (iI x1))] [] [oB hM 5 [.ref zA, .ref spA, .ref svA, .int (iI nsv), .ref soA, .ref ikA, .ref txA, .int (iI len), .int (iI thr), .int (iI nvi), .ref viA, .int (iI low), .int (iI high), .ref srA, .ref frA, .ref toA, .ref hoA, .ref keA, .int (iI nto), .int (iI spo), .int (iI mos)], aI t zA 646 z, aI t spA 646 sp, aI t svA 3876 sv, aI t soA 1292 so, aZ t ikA 2 ik, aI t txA 60 tx, aI t viA 120 vi, aI t srA 120 sr, aI t frA 122 fr, aI t toA 122 to, aI t hoA 31 ho, aI t keA 31 ke] := by
    intro len nto spo tx ho ke x1 hv
    unfold wp_X5_readText_36 at hv
    refine V_iload_n hc dX5_readText_36 1 rfl ?_
    refine V_if_eq (tgt := 55) hc dX5_readText_37 (by decide) hv (fun hv => ?_) (fun hv => ?_)
    · refine V_iconst hc dX5_readText_55 ?_
      exact V_zret hc hr (nto, spo, ho, ke) ⟨by decide, hv⟩ rfl dX5_readText_56
    · refine V_aload_n hc dX5_readText_40 0 rfl ?_
      refine V_get (C := RX5) (T := TX5) (N := 21) hc i_X5_readText_5 0 rfl rfl 19 (by decide) m_X5_readText_140 rfl dX5_readText_41 ?_
      refine V_aload_n hc dX5_readText_44 0 rfl ?_
      refine V_get (C := RX5) (T := TX5) (N := 21) hc i_X5_readText_5 0 rfl rfl 7 (by decide) m_X5_readText_137 rfl dX5_readText_45 ?_
      refine V_icmp_ne (tgt := 55) hc dX5_readText_48 (by decide) hv (fun hv => ?_) (fun hv => ?_)
      · refine V_iconst hc dX5_readText_55 ?_
        exact V_zret hc hr (nto, spo, ho, ke) ⟨by decide, hv⟩ rfl dX5_readText_56
      · refine V_iconst hc dX5_readText_51 ?_
        refine V_goto (tgt := 56) hc dX5_readText_52 (by decide) ?_
        exact V_zret hc hr (nto, spo, ho, ke) ⟨by decide, hv⟩ rfl dX5_readText_56
  have L_15 : ∀ (len : Int) (tx : Nat → Int) (n9 : Nat) (nto : Int) (spo : Int) (ho : Nat → Int) (ke : Nat → Int) (x1 : Int), lq5 (wp_X5_readText_15 len tx Q) n9 nto spo ho ke x1 → V p l e rm_X5_readText s m args below meth c D A 2 0 0 (MQ below (QI D A (W1_X5_readText t hM zA spA svA soA ikA txA viA srA frA toA hoA keA nsv len thr nvi low high mos z sp sv so ik tx vi sr fr to) (po_X5_readText Q)) args s 0 0 A) 15 [(0, .ref hM), (1, .int (iI x1))] [] [oB hM 5 [.ref zA, .ref spA, .ref svA, .int (iI nsv), .ref soA, .ref ikA, .ref txA, .int (iI len), .int (iI thr), .int (iI nvi), .ref viA, .int (iI low), .int (iI high), .ref srA, .ref frA, .ref toA, .ref hoA, .ref keA, .int (iI nto), .int (iI spo), .int (iI mos)], aI t zA 646 z, aI t spA 646 sp, aI t svA 3876 sv, aI t soA 1292 so, aZ t ikA 2 ik, aI t txA 60 tx, aI t viA 120 vi, aI t srA 120 sr, aI t frA 122 fr, aI t toA 122 to, aI t hoA 31 ho, aI t keA 31 ke] := by
    intro len tx n9
    induction n9 with
    | zero =>
      intro nto spo ho ke x1 hv
      exact hv.elim
    | succ n9 ih =>
      intro nto spo ho ke x1 hv
      have hv : wp_X5_readText_15 len tx Q (lq5 (wp_X5_readText_15 len tx Q) n9) nto spo ho ke x1 := hv
      generalize lq5 (wp_X5_readText_15 len tx Q) n9 = K_15 at hv ih
      have hK_15 := ih
      unfold wp_X5_readText_15 at hv
      refine V_iload_n hc dX5_readText_15 1 rfl ?_
      refine V_if_eq (tgt := 36) hc dX5_readText_16 (by decide) hv (fun hv => ?_) (fun hv => ?_)
      · exact C_36 len nto spo tx ho ke x1 hv
      · refine V_aload_n hc dX5_readText_19 0 rfl ?_
        refine V_bipush hc dX5_readText_20 (by decide) ?_
        refine V_callVI (As := [.int (iI 59)]) hc (wc := [oB hM 5 [.ref zA, .ref spA, .ref svA, .int (iI nsv), .ref soA, .ref ikA, .ref txA, .int (iI len), .int (iI thr), .int (iI nvi), .ref viA, .int (iI low), .int (iI high), .ref srA, .ref frA, .ref toA, .ref hoA, .ref keA, .int (iI nto), .int (iI spo), .int (iI mos)], aI t zA 646 z, aI t spA 646 sp, aI t svA 3876 sv, aI t soA 1292 so, aZ t ikA 2 ik, aI t txA 60 tx, aI t viA 120 vi, aI t srA 120 sr, aI t frA 122 fr, aI t toA 122 to, aI t hoA 31 ho, aI t keA 31 ke]) (wr := []) (pmI [0, 1, 2, 3, 4, 5, 6, 7, 8, 9, 10, 11, 12] 13 rfl (by decide +kernel) rfl) rfl rfl (met_X5_takes l D t hM zA spA svA soA ikA txA viA srA frA toA hoA keA nsv len thr nvi low high nto spo mos z sp sv so ik tx vi sr fr to ho ke 59 _ hv) rfl gX5_readText_X5_takes rfl ⟨rfl, rfl⟩ ok_X5_takes (by decide) (Nat.le_of_ble_eq_true rfl) dX5_readText_22 (by decide) (fun r_2 u9 hv => ?_)
        obtain ⟨spo_2, h9⟩ : ∃ z, z = u9 := ⟨_, rfl⟩
        subst h9
        try dsimp only at hv
        refine V_perm (ws1 := [oB hM 5 [.ref zA, .ref spA, .ref svA, .int (iI nsv), .ref soA, .ref ikA, .ref txA, .int (iI len), .int (iI thr), .int (iI nvi), .ref viA, .int (iI low), .int (iI high), .ref srA, .ref frA, .ref toA, .ref hoA, .ref keA, .int (iI nto), .int (iI spo_2), .int (iI mos)], aI t zA 646 z, aI t spA 646 sp, aI t svA 3876 sv, aI t soA 1292 so, aZ t ikA 2 ik, aI t txA 60 tx, aI t viA 120 vi, aI t srA 120 sr, aI t frA 122 fr, aI t toA 122 to, aI t hoA 31 ho, aI t keA 31 ke]) (pmI [0, 1, 2, 3, 4, 5, 6, 7, 8, 9, 10, 11, 12] 13 rfl (by decide +kernel) rfl) ?_
        refine V_if_eq (tgt := 36) hc dX5_readText_25 (by decide) hv (fun hv => ?_) (fun hv => ?_)
        · exact C_36 len nto spo_2 tx ho ke x1 hv
        · refine V_aload_n hc dX5_readText_28 0 rfl ?_
          refine V_callVI (As := []) hc (wc := [oB hM 5 [.ref zA, .ref spA, .ref svA, .int (iI nsv), .ref soA, .ref ikA, .ref txA, .int (iI len), .int (iI thr), .int (iI nvi), .ref viA, .int (iI low), .int (iI high), .ref srA, .ref frA, .ref toA, .ref hoA, .ref keA, .int (iI nto), .int (iI spo_2), .int (iI mos)], aI t zA 646 z, aI t spA 646 sp, aI t svA 3876 sv, aI t soA 1292 so, aZ t ikA 2 ik, aI t txA 60 tx, aI t viA 120 vi, aI t srA 120 sr, aI t frA 122 fr, aI t toA 122 to, aI t hoA 31 ho, aI t keA 31 ke]) (wr := []) (pmI [0, 1, 2, 3, 4, 5, 6, 7, 8, 9, 10, 11, 12] 13 rfl (by decide +kernel) rfl) rfl rfl (met_X5_readAct l D t hM zA spA svA soA ikA txA viA srA frA toA hoA keA nsv len thr nvi low high nto spo_2 mos z sp sv so ik tx vi sr fr to ho ke _ hv) rfl gX5_readText_X5_readAct rfl ⟨rfl, rfl⟩ ok_X5_readAct (by decide) (Nat.le_of_ble_eq_true rfl) dX5_readText_29 (by decide) (fun r_3 u9 hv => ?_)
          obtain ⟨nto_3, spo_3, ho_3, ke_3⟩ := u9
          try dsimp only at hv
          refine V_perm (ws1 := [oB hM 5 [.ref zA, .ref spA, .ref svA, .int (iI nsv), .ref soA, .ref ikA, .ref txA, .int (iI len), .int (iI thr), .int (iI nvi), .ref viA, .int (iI low), .int (iI high), .ref srA, .ref frA, .ref toA, .ref hoA, .ref keA, .int (iI nto_3), .int (iI spo_3), .int (iI mos)], aI t zA 646 z, aI t spA 646 sp, aI t svA 3876 sv, aI t soA 1292 so, aZ t ikA 2 ik, aI t txA 60 tx, aI t viA 120 vi, aI t srA 120 sr, aI t frA 122 fr, aI t toA 122 to, aI t hoA 31 ho_3, aI t keA 31 ke_3]) (pmI [0, 1, 2, 3, 4, 5, 6, 7, 8, 9, 10, 11, 12] 13 rfl (by decide +kernel) rfl) ?_
          refine V_istore_n hc dX5_readText_32 [(1, .int (iI r_3)), (0, .ref hM)] (by decide) rfl ?_
          refine V_goto (tgt := 15) hc dX5_readText_33 (by decide) ?_
          refine V_lv [1, 0] [(0, .ref hM), (1, .int (iI r_3))] rfl ?_
          exact hK_15 nto_3 spo_3 ho_3 ke_3 r_3 hv
  refine V_lv [0] [(0, .ref hM)] rfl ?_
  unfold wp_X5_readText at hv
  refine V_aload_n hc dX5_readText_0 0 rfl ?_
  refine V_iconst hc dX5_readText_1 ?_
  refine V_puti (C := RX5) (T := TX5) (N := 21) hc i_X5_readText_5 0 rfl rfl 19 (by decide) m_X5_readText_140 tyX5 tyX5_ok nmX5 rfl (by decide +kernel) (Nat.le_of_ble_eq_true rfl) dX5_readText_2 [oB hM 5 [.ref zA, .ref spA, .ref svA, .int (iI nsv), .ref soA, .ref ikA, .ref txA, .int (iI len), .int (iI thr), .int (iI nvi), .ref viA, .int (iI low), .int (iI high), .ref srA, .ref frA, .ref toA, .ref hoA, .ref keA, .int (iI nto), .int (iI 0), .int (iI mos)], aI t zA 646 z, aI t spA 646 sp, aI t svA 3876 sv, aI t soA 1292 so, aZ t ikA 2 ik, aI t txA 60 tx, aI t viA 120 vi, aI t srA 120 sr, aI t frA 122 fr, aI t toA 122 to, aI t hoA 31 ho, aI t keA 31 ke] rfl ?_
  refine V_aload_n hc dX5_readText_5 0 rfl ?_
  refine V_iconst hc dX5_readText_6 ?_
  refine V_puti (C := RX5) (T := TX5) (N := 21) hc i_X5_readText_5 0 rfl rfl 18 (by decide) m_X5_readText_152 tyX5 tyX5_ok nmX5 rfl (by decide +kernel) (Nat.le_of_ble_eq_true rfl) dX5_readText_7 [oB hM 5 [.ref zA, .ref spA, .ref svA, .int (iI nsv), .ref soA, .ref ikA, .ref txA, .int (iI len), .int (iI thr), .int (iI nvi), .ref viA, .int (iI low), .int (iI high), .ref srA, .ref frA, .ref toA, .ref hoA, .ref keA, .int (iI 0), .int (iI 0), .int (iI mos)], aI t zA 646 z, aI t spA 646 sp, aI t svA 3876 sv, aI t soA 1292 so, aZ t ikA 2 ik, aI t txA 60 tx, aI t viA 120 vi, aI t srA 120 sr, aI t frA 122 fr, aI t toA 122 to, aI t hoA 31 ho, aI t keA 31 ke] rfl ?_
  refine V_aload_n hc dX5_readText_10 0 rfl ?_
  refine V_callVI (As := []) hc (wc := [oB hM 5 [.ref zA, .ref spA, .ref svA, .int (iI nsv), .ref soA, .ref ikA, .ref txA, .int (iI len), .int (iI thr), .int (iI nvi), .ref viA, .int (iI low), .int (iI high), .ref srA, .ref frA, .ref toA, .ref hoA, .ref keA, .int (iI 0), .int (iI 0), .int (iI mos)], aI t zA 646 z, aI t spA 646 sp, aI t svA 3876 sv, aI t soA 1292 so, aZ t ikA 2 ik, aI t txA 60 tx, aI t viA 120 vi, aI t srA 120 sr, aI t frA 122 fr, aI t toA 122 to, aI t hoA 31 ho, aI t keA 31 ke]) (wr := []) (pmI [0, 1, 2, 3, 4, 5, 6, 7, 8, 9, 10, 11, 12] 13 rfl (by decide +kernel) rfl) rfl rfl (met_X5_readAct l D t hM zA spA svA soA ikA txA viA srA frA toA hoA keA nsv len thr nvi low high 0 0 mos z sp sv so ik tx vi sr fr to ho ke _ hv) rfl gX5_readText_X5_readAct rfl ⟨rfl, rfl⟩ ok_X5_readAct (by decide) (Nat.le_of_ble_eq_true rfl) dX5_readText_11 (by decide) (fun r_1 u9 hv => ?_)
  obtain ⟨nto_1, spo_1, ho_1, ke_1⟩ := u9
  try dsimp only at hv
  refine V_perm (ws1 := [oB hM 5 [.ref zA, .ref spA, .ref svA, .int (iI nsv), .ref soA, .ref ikA, .ref txA, .int (iI len), .int (iI thr), .int (iI nvi), .ref viA, .int (iI low), .int (iI high), .ref srA, .ref frA, .ref toA, .ref hoA, .ref keA, .int (iI nto_1), .int (iI spo_1), .int (iI mos)], aI t zA 646 z, aI t spA 646 sp, aI t svA 3876 sv, aI t soA 1292 so, aZ t ikA 2 ik, aI t txA 60 tx, aI t viA 120 vi, aI t srA 120 sr, aI t frA 122 fr, aI t toA 122 to, aI t hoA 31 ho_1, aI t keA 31 ke_1]) (pmI [0, 1, 2, 3, 4, 5, 6, 7, 8, 9, 10, 11, 12] 13 rfl (by decide +kernel) rfl) ?_
  refine V_istore_n hc dX5_readText_14 [(1, .int (iI r_1)), (0, .ref hM)] (by decide) rfl ?_
  refine V_lv [1, 0] [(0, .ref hM), (1, .int (iI r_1))] rfl ?_
  obtain ⟨n9, hv⟩ := hv
  exact L_15 len tx n9 nto_1 spo_1 ho_1 ke_1 r_1 hv
abbrev W1_X5_firstError (t : Nat → ClassId) (hM : Nat) (zA : Nat) (spA : Nat) (svA : Nat) (soA : Nat) (ikA : Nat) (txA : Nat) (viA : Nat) (srA : Nat) (frA : Nat) (toA : Nat) (hoA : Nat) (keA : Nat) (nsv : Int) (len : Int) (nvi : Int) (low : Int) (high : Int) (mos : Int) (z : Nat → Int) (sp : Nat → Int) (sv : Nat → Int) (so : Nat → Int) (ik : Nat → Int) (tx : Nat → Int) (vi : Nat → Int) (sr : Nat → Int) (fr : Nat → Int) (to : Nat → Int) (u : (Int) × (Int) × (Int) × (Nat → Int) × (Nat → Int)) : va_W := [oB hM 5 [.ref zA, .ref spA, .ref svA, .int (iI nsv), .ref soA, .ref ikA, .ref txA, .int (iI len), .int (iI u.1), .int (iI nvi), .ref viA, .int (iI low), .int (iI high), .ref srA, .ref frA, .ref toA, .ref hoA, .ref keA, .int (iI u.2.1), .int (iI u.2.2.1), .int (iI mos)], aI t zA 646 z, aI t spA 646 sp, aI t svA 3876 sv, aI t soA 1292 so, aZ t ikA 2 ik, aI t txA 60 tx, aI t viA 120 vi, aI t srA 120 sr, aI t frA 122 fr, aI t toA 122 to, aI t hoA 31 u.2.2.2.1, aI t keA 31 u.2.2.2.2]
abbrev po_X5_firstError (Q : Int → (Int) → (Int) → (Int) → (Nat → Int) → (Nat → Int) → Prop) (r : Int) (u : (Int) × (Int) × (Int) × (Nat → Int) × (Nat → Int)) : Prop := Q r u.1 u.2.1 u.2.2.1 u.2.2.2.1 u.2.2.2.2
abbrev rm_X5_firstError : Room := { frames := 5, cells := 0, slots := 0, locals := 111 }
def wp_X5_firstError (len : Int) (thr : Int) (nto : Int) (spo : Int) (tx : Nat → Int) (ho : Nat → Int) (ke : Nat → Int) (Q : Int → (Int) → (Int) → (Int) → (Nat → Int) → (Nat → Int) → Prop) : Prop := wp_X5_readText len nto spo tx ho ke (fun r_1 nto_1 spo_1 ho_1 ke_1 => inR r_1 ∧ (r_1 = 0 → Q spo_1 0 nto_1 spo_1 ho_1 ke_1) ∧ (¬ (r_1 = 0) → Q len 0 nto_1 spo_1 ho_1 ke_1))
theorem m_X5_firstError_47 : Cond.fieldLink RX5 47 "BackgroundRebuildModel" "thrown" "I" ∈ wsX5_firstError := by decide +kernel
theorem m_X5_firstError_140 : Cond.fieldLink RX5 140 "BackgroundRebuildModel" "spot" "I" ∈ wsX5_firstError := by decide +kernel
theorem m_X5_firstError_137 : Cond.fieldLink RX5 137 "BackgroundRebuildModel" "length" "I" ∈ wsX5_firstError := by decide +kernel
theorem i_X5_firstError_5 : ∀ w ∈ u_ws RX5 TX5 21, w ∈ wsX5_firstError := by decide +kernel
theorem ok_X5_firstError : yX5_firstError.cls = RX5 ∧ yX5_firstError.cls ≠ "java/lang/invoke/MethodHandle" ∧ yX5_firstError.cls ≠ "java/lang/invoke/VarHandle" ∧ (parseMethodDescriptor yX5_firstError.desc).map (fun d => d.parameters.length) = some 0 := by decide +kernel
set_option maxHeartbeats 4000000 in
set_option maxRecDepth 100000 in
theorem met_X5_firstError (l : Launch) (D : va_G) (t : Nat → ClassId) (hM : Nat) (zA : Nat) (spA : Nat) (svA : Nat) (soA : Nat) (ikA : Nat) (txA : Nat) (viA : Nat) (srA : Nat) (frA : Nat) (toA : Nat) (hoA : Nat) (keA : Nat) (nsv : Int) (len : Int) (thr : Int) (nvi : Int) (low : Int) (high : Int) (nto : Int) (spo : Int) (mos : Int) (z : Nat → Int) (sp : Nat → Int) (sv : Nat → Int) (so : Nat → Int) (ik : Nat → Int) (tx : Nat → Int) (vi : Nat → Int) (sr : Nat → Int) (fr : Nat → Int) (to : Nat → Int) (ho : Nat → Int) (ke : Nat → Int) (Q : Int → (Int) → (Int) → (Int) → (Nat → Int) → (Nat → Int) → Prop) (hv : wp_X5_firstError len thr nto spo tx ho ke Q) : MI l D t yX5_firstError wsX5_firstError rm_X5_firstError [.ref hM] [oB hM 5 [.ref zA, .ref spA, .ref svA, .int (iI nsv), .ref soA, .ref ikA, .ref txA, .int (iI len), .int (iI thr), .int (iI nvi), .ref viA, .int (iI low), .int (iI high), .ref srA, .ref frA, .ref toA, .ref hoA, .ref keA, .int (iI nto), .int (iI spo), .int (iI mos)], aI t zA 646 z, aI t spA 646 sp, aI t svA 3876 sv, aI t soA 1292 so, aZ t ikA 2 ik, aI t txA 60 tx, aI t viA 120 vi, aI t srA 120 sr, aI t frA 122 fr, aI t toA 122 to, aI t hoA 31 ho, aI t keA 31 ke] (W1_X5_firstError t hM zA spA svA soA ikA txA viA srA frA toA hoA keA nsv len nvi low high mos z sp sv so ik tx vi sr fr to) (po_X5_firstError Q) 0 0 := by
  refine M_ofi (cc := cX5_firstError) (nL := 1) (by decide) rfl (Nat.le_of_ble_eq_true rfl) ?_
  intro p e s m args below meth c A hc hr
  refine V_lv [0] [(0, .ref hM)] rfl ?_
  unfold wp_X5_firstError at hv
  refine V_aload_n hc dX5_firstError_0 0 rfl ?_
  refine V_iconst hc dX5_firstError_1 ?_
  refine V_puti (C := RX5) (T := TX5) (N := 21) hc i_X5_firstError_5 0 rfl rfl 8 (by decide) m_X5_firstError_47 tyX5 tyX5_ok nmX5 rfl (by decide +kernel) (Nat.le_of_ble_eq_true rfl) dX5_firstError_2 [oB hM 5 [.ref zA, .ref spA, .ref svA, .int (iI nsv), .ref soA, .ref ikA, .ref txA, .int (iI len), .int (iI 0), .int (iI nvi), .ref viA, .int (iI low), .int (iI high), .ref srA, .ref frA, .ref toA, .ref hoA, .ref keA, .int (iI nto), .int (iI spo), .int (iI mos)], aI t zA 646 z, aI t spA 646 sp, aI t svA 3876 sv, aI t soA 1292 so, aZ t ikA 2 ik, aI t txA 60 tx, aI t viA 120 vi, aI t srA 120 sr, aI t frA 122 fr, aI t toA 122 to, aI t hoA 31 ho, aI t keA 31 ke] rfl ?_
  refine V_aload_n hc dX5_firstError_5 0 rfl ?_
  refine V_callVI (As := []) hc (wc := [oB hM 5 [.ref zA, .ref spA, .ref svA, .int (iI nsv), .ref soA, .ref ikA, .ref txA, .int (iI len), .int (iI 0), .int (iI nvi), .ref viA, .int (iI low), .int (iI high), .ref srA, .ref frA, .ref toA, .ref hoA, .ref keA, .int (iI nto), .int (iI spo), .int (iI mos)], aI t zA 646 z, aI t spA 646 sp, aI t svA 3876 sv, aI t soA 1292 so, aZ t ikA 2 ik, aI t txA 60 tx, aI t viA 120 vi, aI t srA 120 sr, aI t frA 122 fr, aI t toA 122 to, aI t hoA 31 ho, aI t keA 31 ke]) (wr := []) (pmI [0, 1, 2, 3, 4, 5, 6, 7, 8, 9, 10, 11, 12] 13 rfl (by decide +kernel) rfl) rfl rfl (met_X5_readText l D t hM zA spA svA soA ikA txA viA srA frA toA hoA keA nsv len 0 nvi low high nto spo mos z sp sv so ik tx vi sr fr to ho ke _ hv) rfl gX5_firstError_X5_readText rfl ⟨rfl, rfl⟩ ok_X5_readText (by decide) (Nat.le_of_ble_eq_true rfl) dX5_firstError_6 (by decide) (fun r_1 u9 hv => ?_)
  obtain ⟨nto_1, spo_1, ho_1, ke_1⟩ := u9
  try dsimp only at hv
  refine V_perm (ws1 := [oB hM 5 [.ref zA, .ref spA, .ref svA, .int (iI nsv), .ref soA, .ref ikA, .ref txA, .int (iI len), .int (iI 0), .int (iI nvi), .ref viA, .int (iI low), .int (iI high), .ref srA, .ref frA, .ref toA, .ref hoA, .ref keA, .int (iI nto_1), .int (iI spo_1), .int (iI mos)], aI t zA 646 z, aI t spA 646 sp, aI t svA 3876 sv, aI t soA 1292 so, aZ t ikA 2 ik, aI t txA 60 tx, aI t viA 120 vi, aI t srA 120 sr, aI t frA 122 fr, aI t toA 122 to, aI t hoA 31 ho_1, aI t keA 31 ke_1]) (pmI [0, 1, 2, 3, 4, 5, 6, 7, 8, 9, 10, 11, 12] 13 rfl (by decide +kernel) rfl) ?_
  refine V_if_eq (tgt := 19) hc dX5_firstError_9 (by decide) hv (fun hv => ?_) (fun hv => ?_)
  · refine V_aload_n hc dX5_firstError_19 0 rfl ?_
    refine V_get (C := RX5) (T := TX5) (N := 21) hc i_X5_firstError_5 0 rfl rfl 19 (by decide) m_X5_firstError_140 rfl dX5_firstError_20 ?_
    exact V_iret hc hr (0, nto_1, spo_1, ho_1, ke_1) hv rfl dX5_firstError_23
  · refine V_aload_n hc dX5_firstError_12 0 rfl ?_
    refine V_get (C := RX5) (T := TX5) (N := 21) hc i_X5_firstError_5 0 rfl rfl 7 (by decide) m_X5_firstError_137 rfl dX5_firstError_13 ?_
    refine V_goto (tgt := 23) hc dX5_firstError_16 (by decide) ?_
    exact V_iret hc hr (0, nto_1, spo_1, ho_1, ke_1) hv rfl dX5_firstError_23
abbrev W1_X5_execute (t : Nat → ClassId) (hM : Nat) (zA : Nat) (spA : Nat) (svA : Nat) (soA : Nat) (ikA : Nat) (txA : Nat) (viA : Nat) (srA : Nat) (frA : Nat) (toA : Nat) (hoA : Nat) (keA : Nat) (mos : Int) (sp : Nat → Int) (so : Nat → Int) (ik : Nat → Int) (tx : Nat → Int) (u : (Int) × (Int) × (Int) × (Int) × (Int) × (Int) × (Int) × (Int) × (Nat → Int) × (Nat → Int) × (Nat → Int) × (Nat → Int) × (Nat → Int) × (Nat → Int) × (Nat → Int) × (Nat → Int)) : va_W := [oB hM 5 [.ref zA, .ref spA, .ref svA, .int (iI u.1), .ref soA, .ref ikA, .ref txA, .int (iI u.2.1), .int (iI u.2.2.1), .int (iI u.2.2.2.1), .ref viA, .int (iI u.2.2.2.2.1), .int (iI u.2.2.2.2.2.1), .ref srA, .ref frA, .ref toA, .ref hoA, .ref keA, .int (iI u.2.2.2.2.2.2.1), .int (iI u.2.2.2.2.2.2.2.1), .int (iI mos)], aI t zA 646 u.2.2.2.2.2.2.2.2.1, aI t spA 646 sp, aI t svA 3876 u.2.2.2.2.2.2.2.2.2.1, aI t soA 1292 so, aZ t ikA 2 ik, aI t txA 60 tx, aI t viA 120 u.2.2.2.2.2.2.2.2.2.2.1, aI t srA 120 u.2.2.2.2.2.2.2.2.2.2.2.1, aI t frA 122 u.2.2.2.2.2.2.2.2.2.2.2.2.1, aI t toA 122 u.2.2.2.2.2.2.2.2.2.2.2.2.2.1, aI t hoA 31 u.2.2.2.2.2.2.2.2.2.2.2.2.2.2.1, aI t keA 31 u.2.2.2.2.2.2.2.2.2.2.2.2.2.2.2]
abbrev po_X5_execute (Q : Int → (Int) → (Int) → (Int) → (Int) → (Int) → (Int) → (Int) → (Int) → (Nat → Int) → (Nat → Int) → (Nat → Int) → (Nat → Int) → (Nat → Int) → (Nat → Int) → (Nat → Int) → (Nat → Int) → Prop) (r : Int) (u : (Int) × (Int) × (Int) × (Int) × (Int) × (Int) × (Int) × (Int) × (Nat → Int) × (Nat → Int) × (Nat → Int) × (Nat → Int) × (Nat → Int) × (Nat → Int) × (Nat → Int) × (Nat → Int)) : Prop := Q r u.1 u.2.1 u.2.2.1 u.2.2.2.1 u.2.2.2.2.1 u.2.2.2.2.2.1 u.2.2.2.2.2.2.1 u.2.2.2.2.2.2.2.1 u.2.2.2.2.2.2.2.2.1 u.2.2.2.2.2.2.2.2.2.1 u.2.2.2.2.2.2.2.2.2.2.1 u.2.2.2.2.2.2.2.2.2.2.2.1 u.2.2.2.2.2.2.2.2.2.2.2.2.1 u.2.2.2.2.2.2.2.2.2.2.2.2.2.1 u.2.2.2.2.2.2.2.2.2.2.2.2.2.2.1 u.2.2.2.2.2.2.2.2.2.2.2.2.2.2.2
abbrev rm_X5_execute : Room := { frames := 5, cells := 0, slots := 0, locals := 117 }
def wp_X5_execute_57 (nsv : Int) (len : Int) (thr : Int) (nvi : Int) (low : Int) (high : Int) (nto : Int) (spo : Int) (z : Nat → Int) (sv : Nat → Int) (tx : Nat → Int) (vi : Nat → Int) (sr : Nat → Int) (fr : Nat → Int) (to : Nat → Int) (ho : Nat → Int) (ke : Nat → Int) (x1 : Int) (Q : Int → (Int) → (Int) → (Int) → (Int) → (Int) → (Int) → (Int) → (Int) → (Nat → Int) → (Nat → Int) → (Nat → Int) → (Nat → Int) → (Nat → Int) → (Nat → Int) → (Nat → Int) → (Nat → Int) → Prop) (K_27 : (Int) → (Int) → (Int) → (Nat → Int) → (Nat → Int) → (Nat → Int) → (Nat → Int) → (Nat → Int) → Int → Prop) : Prop := (0 ≤ x1 ∧ x1 < 31) ∧ (0 ≤ x1 ∧ x1 < 31) ∧ wp_X5_act nvi low high z vi sr fr to (ho x1.toNat) (ke x1.toNat) (fun r_5 nvi_5 low_5 high_5 z_5 vi_5 sr_5 fr_5 to_5 => K_27 nvi_5 low_5 high_5 z_5 vi_5 sr_5 fr_5 to_5 (x1 + 1))
def wp_X5_execute_27 (nsv : Int) (len : Int) (thr : Int) (nto : Int) (spo : Int) (sv : Nat → Int) (tx : Nat → Int) (ho : Nat → Int) (ke : Nat → Int) (Q : Int → (Int) → (Int) → (Int) → (Int) → (Int) → (Int) → (Int) → (Int) → (Nat → Int) → (Nat → Int) → (Nat → Int) → (Nat → Int) → (Nat → Int) → (Nat → Int) → (Nat → Int) → (Nat → Int) → Prop) (K_27 : (Int) → (Int) → (Int) → (Nat → Int) → (Nat → Int) → (Nat → Int) → (Nat → Int) → (Nat → Int) → Int → Prop) (nvi : Int) (low : Int) (high : Int) (z : Nat → Int) (vi : Nat → Int) (sr : Nat → Int) (fr : Nat → Int) (to : Nat → Int) (x1 : Int) : Prop := inR x1 ∧ inR nto ∧ (x1 ≥ nto → Q x1 nsv 0 thr nvi low high nto spo z sv vi sr fr to ho ke) ∧ (¬ (x1 ≥ nto) → (0 ≤ x1 ∧ x1 < 31) ∧ inR (ho x1.toNat) ∧ (ho x1.toNat ≠ 0 → wp_X5_execute_57 nsv len thr nvi low high nto spo z sv tx vi sr fr to ho ke x1 Q K_27) ∧ (¬ (ho x1.toNat ≠ 0) → (0 ≤ x1 ∧ x1 < 31) ∧ wp_X5_hasRoom z (ke x1.toNat) (fun r_4 => inR r_4 ∧ (r_4 = 0 → Q x1 nsv 0 thr nvi low high nto spo z sv vi sr fr to ho ke) ∧ (¬ (r_4 = 0) → wp_X5_execute_57 nsv len thr nvi low high nto spo z sv tx vi sr fr to ho ke x1 Q K_27))))
def wp_X5_execute_13 (nsv : Int) (len : Int) (thr : Int) (nvi : Int) (low : Int) (high : Int) (nto : Int) (spo : Int) (z : Nat → Int) (sv : Nat → Int) (tx : Nat → Int) (vi : Nat → Int) (sr : Nat → Int) (fr : Nat → Int) (to : Nat → Int) (ho : Nat → Int) (ke : Nat → Int) (s0 : Int) (Q : Int → (Int) → (Int) → (Int) → (Int) → (Int) → (Int) → (Int) → (Int) → (Nat → Int) → (Nat → Int) → (Nat → Int) → (Nat → Int) → (Nat → Int) → (Nat → Int) → (Nat → Int) → (Nat → Int) → Prop) : Prop := wp_X5_refused thr s0 (fun r_2 thr_2 => inR r_2 ∧ (r_2 = 0 → wp_X5_saveState nsv z sv (fun nsv_3 sv_3 => (∃ n, lq9 (wp_X5_execute_27 nsv_3 len thr_2 nto spo sv_3 tx ho ke Q) n nvi low high z vi sr fr to 0))) ∧ (¬ (r_2 = 0) → Q 0 nsv len thr_2 nvi low high nto spo z sv vi sr fr to ho ke))
def wp_X5_execute (nsv : Int) (len : Int) (thr : Int) (nvi : Int) (low : Int) (high : Int) (nto : Int) (spo : Int) (z : Nat → Int) (sv : Nat → Int) (tx : Nat → Int) (vi : Nat → Int) (sr : Nat → Int) (fr : Nat → Int) (to : Nat → Int) (ho : Nat → Int) (ke : Nat → Int) (Q : Int → (Int) → (Int) → (Int) → (Int) → (Int) → (Int) → (Int) → (Int) → (Nat → Int) → (Nat → Int) → (Nat → Int) → (Nat → Int) → (Nat → Int) → (Nat → Int) → (Nat → Int) → (Nat → Int) → Prop) : Prop := wp_X5_readText len nto spo tx ho ke (fun r_1 nto_1 spo_1 ho_1 ke_1 => inR r_1 ∧ (r_1 = 0 → wp_X5_execute_13 nsv len thr nvi low high nto_1 spo_1 z sv tx vi sr fr to ho_1 ke_1 1 Q) ∧ (¬ (r_1 = 0) → wp_X5_execute_13 nsv len thr nvi low high nto_1 spo_1 z sv tx vi sr fr to ho_1 ke_1 0 Q))
theorem m_X5_execute_152 : Cond.fieldLink RX5 152 "BackgroundRebuildModel" "toldMany" "I" ∈ wsX5_execute := by decide +kernel
theorem m_X5_execute_137 : Cond.fieldLink RX5 137 "BackgroundRebuildModel" "length" "I" ∈ wsX5_execute := by decide +kernel
theorem m_X5_execute_41 : Cond.fieldLink RX5 41 "BackgroundRebuildModel" "hows" "[I" ∈ wsX5_execute := by decide +kernel
theorem m_X5_execute_44 : Cond.fieldLink RX5 44 "BackgroundRebuildModel" "keys" "[I" ∈ wsX5_execute := by decide +kernel
theorem i_X5_execute_5 : ∀ w ∈ u_ws RX5 TX5 21, w ∈ wsX5_execute := by decide +kernel
theorem ok_X5_execute : yX5_execute.cls = RX5 ∧ yX5_execute.cls ≠ "java/lang/invoke/MethodHandle" ∧ yX5_execute.cls ≠ "java/lang/invoke/VarHandle" ∧ (parseMethodDescriptor yX5_execute.desc).map (fun d => d.parameters.length) = some 0 := by decide +kernel
set_option maxHeartbeats 4000000 in
set_option maxRecDepth 100000 in
theorem met_X5_execute (l : Launch) (D : va_G) (t : Nat → ClassId) (hM : Nat) (zA : Nat) (spA : Nat) (svA : Nat) (soA : Nat) (ikA : Nat) (txA : Nat) (viA : Nat) (srA : Nat) (frA : Nat) (toA : Nat) (hoA : Nat) (keA : Nat) (nsv : Int) (len : Int) (thr : Int) (nvi : Int) (low : Int) (high : Int) (nto : Int) (spo : Int) (mos : Int) (z : Nat → Int) (sp : Nat → Int) (sv : Nat → Int) (so : Nat → Int) (ik : Nat → Int) (tx : Nat → Int) (vi : Nat → Int) (sr : Nat → Int) (fr : Nat → Int) (to : Nat → Int) (ho : Nat → Int) (ke : Nat → Int) (Q : Int → (Int) → (Int) → (Int) → (Int) → (Int) → (Int) → (Int) → (Int) → (Nat → Int) → (Nat → Int) → (Nat → Int) → (Nat → Int) → (Nat → Int) → (Nat → Int) → (Nat → Int) → (Nat → Int) → Prop) (hv : wp_X5_execute nsv len thr nvi low high nto spo z sv tx vi sr fr to ho ke Q) : MI l D t yX5_execute wsX5_execute rm_X5_execute [.ref hM] [oB hM 5 [.ref zA, .ref spA, .ref svA, .int (iI nsv), .ref soA, .ref ikA, .ref txA, .int (iI len), .int (iI thr), .int (iI nvi), .ref viA, .int (iI low), .int (iI high), .ref srA, .ref frA, .ref toA, .ref hoA, .ref keA, .int (iI nto), .int (iI spo), .int (iI mos)], aI t zA 646 z, aI t spA 646 sp, aI t svA 3876 sv, aI t soA 1292 so, aZ t ikA 2 ik, aI t txA 60 tx, aI t viA 120 vi, aI t srA 120 sr, aI t frA 122 fr, aI t toA 122 to, aI t hoA 31 ho, aI t keA 31 ke] (W1_X5_execute t hM zA spA svA soA ikA txA viA srA frA toA hoA keA mos sp so ik tx) (po_X5_execute Q) 0 0 := by
  refine M_ofi (cc := cX5_execute) (nL := 2) (by decide) rfl (Nat.le_of_ble_eq_true rfl) ?_
  intro p e s m args below meth c A hc hr
  have C_57 : ∀ (nsv : Int) (len : Int) (thr : Int) (nvi : Int) (low : Int) (high : Int) (nto : Int) (spo : Int) (z : Nat → Int) (sv : Nat → Int) (tx : Nat → Int) (vi : Nat → Int) (sr : Nat → Int) (fr : Nat → Int) (to : Nat → Int) (ho : Nat → Int) (ke : Nat → Int) (x1 : Int) (K_27 : (Int) → (Int) → (Int) → (Nat → Int) → (Nat → Int) → (Nat → Int) → (Nat → Int) → (Nat → Int) → Int → Prop) (hK_27 : ∀ (nvi : Int) (low : Int) (high : Int) (z : Nat → Int) (vi : Nat → Int) (sr : Nat → Int) (fr : Nat → Int) (to : Nat → Int) (x1 : Int), K_27 nvi low high z vi sr fr to x1 → V p l e rm_X5_execute s m args below meth c D A 2 0 0 (MQ below (QI D A (W1_X5_execute t hM zA spA svA soA ikA txA viA srA frA toA hoA keA mos sp so ik tx) (po_X5_execute Q)) args s 0 0 A) 27 [(0, .ref hM), (1, .int (iI x1))] [] [oB hM 5 [.ref zA, .ref spA, .ref svA, .int (iI nsv), .ref soA, .ref ikA, .ref txA, .int (iI len), .int (iI thr), .int (iI nvi), .ref viA, .int (iI low), .int (iI high), .ref srA, .ref frA, .ref toA, .ref hoA, .ref keA, .int (iI nto), .int (iI spo), .int (iI mos)], aI t zA 646 z, aI t spA 646 sp, aI t svA 3876 sv, aI t soA 1292 so, aZ t ikA 2 ik, aI t txA 60 tx, aI t viA 120 vi, aI t srA 120 sr, aI t frA 122 fr, aI t toA 122 to, aI t hoA 31 ho, aI t keA 31 ke]), wp_X5_execute_57 nsv len thr nvi low high nto spo z sv tx vi sr fr to ho ke x1 Q K_27 → V p l e rm_X5_execute s m args below meth c D A 2 0 0 (MQ below (QI D A (W1_X5_execute t hM zA spA svA soA ikA txA viA srA frA toA hoA keA mos sp so ik tx) (po_X5_execute Q)) args s 0 0 A) 57 [(0, .ref hM), (1, .int (iI x1))] [] [oB hM 5 [.ref zA, .ref spA, .ref svA, .int (iI nsv), .ref soA, .ref ikA, .ref txA, .int (iI len), .int (iI thr), .int (iI nvi), .ref viA, .int (iI low), .int (iI high), .ref srA, .ref frA, .ref toA, .ref hoA, .ref keA, .int (iI nto), .int (iI spo), .int (iI mos)], aI t zA 646 z, aI t spA 646 sp, aI t svA 3876 sv, aI t soA 1292 so, aZ t ikA 2 ik, aI t txA 60 tx, aI t viA 120 vi, aI t srA 120 sr, aI t frA 122 fr, aI t toA 122 to, aI t hoA 31 ho, aI t keA 31 ke] := by
    intro nsv len thr nvi low high nto spo z sv tx vi sr fr to ho ke x1 K_27 hK_27 hv
    unfold wp_X5_execute_57 at hv
    refine V_aload_n hc dX5_execute_57 0 rfl ?_
    refine V_aload_n hc dX5_execute_58 0 rfl ?_
    refine V_get (C := RX5) (T := TX5) (N := 21) hc i_X5_execute_5 0 rfl rfl 16 (by decide) m_X5_execute_41 rfl dX5_execute_59 ?_
    refine V_iload_n hc dX5_execute_62 1 rfl ?_
    refine V_iald hc 11 rfl (by decide) hv dX5_execute_63 (fun hv => ?_)
    refine V_aload_n hc dX5_execute_64 0 rfl ?_
    refine V_get (C := RX5) (T := TX5) (N := 21) hc i_X5_execute_5 0 rfl rfl 17 (by decide) m_X5_execute_44 rfl dX5_execute_65 ?_
    refine V_iload_n hc dX5_execute_68 1 rfl ?_
    refine V_iald hc 12 rfl (by decide) hv dX5_execute_69 (fun hv => ?_)
    refine V_callVI (As := [.int (iI (ho x1.toNat)), .int (iI (ke x1.toNat))]) hc (wc := [oB hM 5 [.ref zA, .ref spA, .ref svA, .int (iI nsv), .ref soA, .ref ikA, .ref txA, .int (iI len), .int (iI thr), .int (iI nvi), .ref viA, .int (iI low), .int (iI high), .ref srA, .ref frA, .ref toA, .ref hoA, .ref keA, .int (iI nto), .int (iI spo), .int (iI mos)], aI t zA 646 z, aI t spA 646 sp, aI t svA 3876 sv, aI t soA 1292 so, aZ t ikA 2 ik, aI t txA 60 tx, aI t viA 120 vi, aI t srA 120 sr, aI t frA 122 fr, aI t toA 122 to, aI t hoA 31 ho, aI t keA 31 ke]) (wr := []) (pmI [0, 1, 2, 3, 4, 5, 6, 7, 8, 9, 10, 11, 12] 13 rfl (by decide +kernel) rfl) rfl rfl (met_X5_act l D t hM zA spA svA soA ikA txA viA srA frA toA hoA keA nsv len thr nvi low high nto spo mos z sp sv so ik tx vi sr fr to ho ke (ho x1.toNat) (ke x1.toNat) _ hv) rfl gX5_execute_X5_act rfl ⟨rfl, rfl⟩ ok_X5_act (by decide) (Nat.le_of_ble_eq_true rfl) dX5_execute_70 (by decide) (fun r_5 u9 hv => ?_)
    obtain ⟨nvi_5, low_5, high_5, z_5, vi_5, sr_5, fr_5, to_5⟩ := u9
    try dsimp only at hv
    refine V_perm (ws1 := [oB hM 5 [.ref zA, .ref spA, .ref svA, .int (iI nsv), .ref soA, .ref ikA, .ref txA, .int (iI len), .int (iI thr), .int (iI nvi_5), .ref viA, .int (iI low_5), .int (iI high_5), .ref srA, .ref frA, .ref toA, .ref hoA, .ref keA, .int (iI nto), .int (iI spo), .int (iI mos)], aI t zA 646 z_5, aI t spA 646 sp, aI t svA 3876 sv, aI t soA 1292 so, aZ t ikA 2 ik, aI t txA 60 tx, aI t viA 120 vi_5, aI t srA 120 sr_5, aI t frA 122 fr_5, aI t toA 122 to_5, aI t hoA 31 ho, aI t keA 31 ke]) (pmI [0, 1, 2, 3, 4, 5, 6, 7, 8, 9, 10, 11, 12] 13 rfl (by decide +kernel) rfl) ?_
    refine V_pop hc dX5_execute_73 rfl ?_
    refine V_iinc hc dX5_execute_74 1 rfl [(1, .int (iI (x1 + 1))), (0, .ref hM)] (by decide) rfl ?_
    refine V_goto (tgt := 27) hc dX5_execute_77 (by decide) ?_
    refine V_lv [1, 0] [(0, .ref hM), (1, .int (iI (x1 + 1)))] rfl ?_
    exact hK_27 nvi_5 low_5 high_5 z_5 vi_5 sr_5 fr_5 to_5 (x1 + 1) hv
  have L_27 : ∀ (nsv : Int) (len : Int) (thr : Int) (nto : Int) (spo : Int) (sv : Nat → Int) (tx : Nat → Int) (ho : Nat → Int) (ke : Nat → Int) (n9 : Nat) (nvi : Int) (low : Int) (high : Int) (z : Nat → Int) (vi : Nat → Int) (sr : Nat → Int) (fr : Nat → Int) (to : Nat → Int) (x1 : Int), lq9 (wp_X5_execute_27 nsv len thr nto spo sv tx ho ke Q) n9 nvi low high z vi sr fr to x1 → V p l e rm_X5_execute s m args below meth c D A 2 0 0 (MQ below (QI D A (W1_X5_execute t hM zA spA svA soA ikA txA viA srA frA toA hoA keA mos sp so ik tx) (po_X5_execute Q)) args s 0 0 A) 27 [(0, .ref hM), (1, .int (iI x1))] [] [oB hM 5 [.ref zA, .ref spA, .ref svA, .int (iI nsv), .ref soA, .ref ikA, .ref txA, .int (iI len), .int (iI thr), .int (iI nvi), .ref viA, .int (iI low), .int (iI high), .ref srA, .ref frA, .ref toA, .ref hoA, .ref keA, .int (iI nto), .int (iI spo), .int (iI mos)], aI t zA 646 z, aI t spA 646 sp, aI t svA 3876 sv, aI t soA 1292 so, aZ t ikA 2 ik, aI t txA 60 tx, aI t viA 120 vi, aI t srA 120 sr, aI t frA 122 fr, aI t toA 122 to, aI t hoA 31 ho, aI t keA 31 ke] := by
    intro nsv len thr nto spo sv tx ho ke n9
    induction n9 with
    | zero =>
      intro nvi low high z vi sr fr to x1 hv
      exact hv.elim
    | succ n9 ih =>
      intro nvi low high z vi sr fr to x1 hv
      have hv : wp_X5_execute_27 nsv len thr nto spo sv tx ho ke Q (lq9 (wp_X5_execute_27 nsv len thr nto spo sv tx ho ke Q) n9) nvi low high z vi sr fr to x1 := hv
      generalize lq9 (wp_X5_execute_27 nsv len thr nto spo sv tx ho ke Q) n9 = K_27 at hv ih
      have hK_27 := ih
      unfold wp_X5_execute_27 at hv
      refine V_iload_n hc dX5_execute_27 1 rfl ?_
      refine V_aload_n hc dX5_execute_28 0 rfl ?_
      refine V_get (C := RX5) (T := TX5) (N := 21) hc i_X5_execute_5 0 rfl rfl 18 (by decide) m_X5_execute_152 rfl dX5_execute_29 ?_
      refine V_icmp_ge (tgt := 80) hc dX5_execute_32 (by decide) hv (fun hv => ?_) (fun hv => ?_)
      · refine V_aload_n hc dX5_execute_80 0 rfl ?_
        refine V_iconst hc dX5_execute_81 ?_
        refine V_puti (C := RX5) (T := TX5) (N := 21) hc i_X5_execute_5 0 rfl rfl 7 (by decide) m_X5_execute_137 tyX5 tyX5_ok nmX5 rfl (by decide +kernel) (Nat.le_of_ble_eq_true rfl) dX5_execute_82 [oB hM 5 [.ref zA, .ref spA, .ref svA, .int (iI nsv), .ref soA, .ref ikA, .ref txA, .int (iI 0), .int (iI thr), .int (iI nvi), .ref viA, .int (iI low), .int (iI high), .ref srA, .ref frA, .ref toA, .ref hoA, .ref keA, .int (iI nto), .int (iI spo), .int (iI mos)], aI t zA 646 z, aI t spA 646 sp, aI t svA 3876 sv, aI t soA 1292 so, aZ t ikA 2 ik, aI t txA 60 tx, aI t viA 120 vi, aI t srA 120 sr, aI t frA 122 fr, aI t toA 122 to, aI t hoA 31 ho, aI t keA 31 ke] rfl ?_
        refine V_iload_n hc dX5_execute_85 1 rfl ?_
        exact V_iret hc hr (nsv, 0, thr, nvi, low, high, nto, spo, z, sv, vi, sr, fr, to, ho, ke) hv rfl dX5_execute_86
      · refine V_aload_n hc dX5_execute_35 0 rfl ?_
        refine V_get (C := RX5) (T := TX5) (N := 21) hc i_X5_execute_5 0 rfl rfl 16 (by decide) m_X5_execute_41 rfl dX5_execute_36 ?_
        refine V_iload_n hc dX5_execute_39 1 rfl ?_
        refine V_iald hc 11 rfl (by decide) hv dX5_execute_40 (fun hv => ?_)
        refine V_if_ne (tgt := 57) hc dX5_execute_41 (by decide) hv (fun hv => ?_) (fun hv => ?_)
        · exact C_57 nsv len thr nvi low high nto spo z sv tx vi sr fr to ho ke x1 K_27 hK_27 hv
        · refine V_aload_n hc dX5_execute_44 0 rfl ?_
          refine V_aload_n hc dX5_execute_45 0 rfl ?_
          refine V_get (C := RX5) (T := TX5) (N := 21) hc i_X5_execute_5 0 rfl rfl 17 (by decide) m_X5_execute_44 rfl dX5_execute_46 ?_
          refine V_iload_n hc dX5_execute_49 1 rfl ?_
          refine V_iald hc 12 rfl (by decide) hv dX5_execute_50 (fun hv => ?_)
          refine V_callVI (As := [.int (iI (ke x1.toNat))]) hc (wc := [oB hM 5 [.ref zA, .ref spA, .ref svA, .int (iI nsv), .ref soA, .ref ikA, .ref txA, .int (iI len), .int (iI thr), .int (iI nvi), .ref viA, .int (iI low), .int (iI high), .ref srA, .ref frA, .ref toA, .ref hoA, .ref keA, .int (iI nto), .int (iI spo), .int (iI mos)], aI t zA 646 z, aI t spA 646 sp, aI t svA 3876 sv, aI t soA 1292 so, aZ t ikA 2 ik, aI t txA 60 tx, aI t viA 120 vi, aI t srA 120 sr, aI t frA 122 fr, aI t toA 122 to, aI t hoA 31 ho, aI t keA 31 ke]) (wr := []) (pmI [0, 1, 2, 3, 4, 5, 6, 7, 8, 9, 10, 11, 12] 13 rfl (by decide +kernel) rfl) rfl rfl (met_X5_hasRoom l D t hM zA spA svA soA ikA txA viA srA frA toA hoA keA nsv len thr nvi low high nto spo mos z sp sv so ik tx vi sr fr to ho ke (ke x1.toNat) _ hv) rfl gX5_execute_X5_hasRoom rfl ⟨rfl, rfl⟩ ok_X5_hasRoom (by decide) (Nat.le_of_ble_eq_true rfl) dX5_execute_51 (by decide) (fun r_4 _ hv => ?_)
          try dsimp only at hv
          refine V_perm (ws1 := [oB hM 5 [.ref zA, .ref spA, .ref svA, .int (iI nsv), .ref soA, .ref ikA, .ref txA, .int (iI len), .int (iI thr), .int (iI nvi), .ref viA, .int (iI low), .int (iI high), .ref srA, .ref frA, .ref toA, .ref hoA, .ref keA, .int (iI nto), .int (iI spo), .int (iI mos)], aI t zA 646 z, aI t spA 646 sp, aI t svA 3876 sv, aI t soA 1292 so, aZ t ikA 2 ik, aI t txA 60 tx, aI t viA 120 vi, aI t srA 120 sr, aI t frA 122 fr, aI t toA 122 to, aI t hoA 31 ho, aI t keA 31 ke]) (pmI [0, 1, 2, 3, 4, 5, 6, 7, 8, 9, 10, 11, 12] 13 rfl (by decide +kernel) rfl) ?_
          refine V_if_eq (tgt := 80) hc dX5_execute_54 (by decide) hv (fun hv => ?_) (fun hv => ?_)
          · refine V_aload_n hc dX5_execute_80 0 rfl ?_
            refine V_iconst hc dX5_execute_81 ?_
            refine V_puti (C := RX5) (T := TX5) (N := 21) hc i_X5_execute_5 0 rfl rfl 7 (by decide) m_X5_execute_137 tyX5 tyX5_ok nmX5 rfl (by decide +kernel) (Nat.le_of_ble_eq_true rfl) dX5_execute_82 [oB hM 5 [.ref zA, .ref spA, .ref svA, .int (iI nsv), .ref soA, .ref ikA, .ref txA, .int (iI 0), .int (iI thr), .int (iI nvi), .ref viA, .int (iI low), .int (iI high), .ref srA, .ref frA, .ref toA, .ref hoA, .ref keA, .int (iI nto), .int (iI spo), .int (iI mos)], aI t zA 646 z, aI t spA 646 sp, aI t svA 3876 sv, aI t soA 1292 so, aZ t ikA 2 ik, aI t txA 60 tx, aI t viA 120 vi, aI t srA 120 sr, aI t frA 122 fr, aI t toA 122 to, aI t hoA 31 ho, aI t keA 31 ke] rfl ?_
            refine V_iload_n hc dX5_execute_85 1 rfl ?_
            exact V_iret hc hr (nsv, 0, thr, nvi, low, high, nto, spo, z, sv, vi, sr, fr, to, ho, ke) hv rfl dX5_execute_86
          · exact C_57 nsv len thr nvi low high nto spo z sv tx vi sr fr to ho ke x1 K_27 hK_27 hv
  have C_13 : ∀ (nsv : Int) (len : Int) (thr : Int) (nvi : Int) (low : Int) (high : Int) (nto : Int) (spo : Int) (z : Nat → Int) (sv : Nat → Int) (tx : Nat → Int) (vi : Nat → Int) (sr : Nat → Int) (fr : Nat → Int) (to : Nat → Int) (ho : Nat → Int) (ke : Nat → Int) (s0 : Int), wp_X5_execute_13 nsv len thr nvi low high nto spo z sv tx vi sr fr to ho ke s0 Q → V p l e rm_X5_execute s m args below meth c D A 2 0 0 (MQ below (QI D A (W1_X5_execute t hM zA spA svA soA ikA txA viA srA frA toA hoA keA mos sp so ik tx) (po_X5_execute Q)) args s 0 0 A) 13 [(0, .ref hM)] [.int (iI s0), .ref hM] [oB hM 5 [.ref zA, .ref spA, .ref svA, .int (iI nsv), .ref soA, .ref ikA, .ref txA, .int (iI len), .int (iI thr), .int (iI nvi), .ref viA, .int (iI low), .int (iI high), .ref srA, .ref frA, .ref toA, .ref hoA, .ref keA, .int (iI nto), .int (iI spo), .int (iI mos)], aI t zA 646 z, aI t spA 646 sp, aI t svA 3876 sv, aI t soA 1292 so, aZ t ikA 2 ik, aI t txA 60 tx, aI t viA 120 vi, aI t srA 120 sr, aI t frA 122 fr, aI t toA 122 to, aI t hoA 31 ho, aI t keA 31 ke] := by
    intro nsv len thr nvi low high nto spo z sv tx vi sr fr to ho ke s0 hv
    unfold wp_X5_execute_13 at hv
    refine V_callVI (As := [.int (iI s0)]) hc (wc := [oB hM 5 [.ref zA, .ref spA, .ref svA, .int (iI nsv), .ref soA, .ref ikA, .ref txA, .int (iI len), .int (iI thr), .int (iI nvi), .ref viA, .int (iI low), .int (iI high), .ref srA, .ref frA, .ref toA, .ref hoA, .ref keA, .int (iI nto), .int (iI spo), .int (iI mos)], aI t zA 646 z, aI t spA 646 sp, aI t svA 3876 sv, aI t soA 1292 so, aZ t ikA 2 ik, aI t txA 60 tx, aI t viA 120 vi, aI t srA 120 sr, aI t frA 122 fr, aI t toA 122 to, aI t hoA 31 ho, aI t keA 31 ke]) (wr := []) (pmI [0, 1, 2, 3, 4, 5, 6, 7, 8, 9, 10, 11, 12] 13 rfl (by decide +kernel) rfl) rfl rfl (met_X5_refused l D t hM zA spA svA soA ikA txA viA srA frA toA hoA keA nsv len thr nvi low high nto spo mos z sp sv so ik tx vi sr fr to ho ke s0 _ hv) rfl gX5_execute_X5_refused rfl ⟨rfl, rfl⟩ ok_X5_refused (by decide) (Nat.le_of_ble_eq_true rfl) dX5_execute_13 (by decide) (fun r_2 u9 hv => ?_)
    obtain ⟨thr_2, h9⟩ : ∃ z, z = u9 := ⟨_, rfl⟩
    subst h9
    try dsimp only at hv
    refine V_perm (ws1 := [oB hM 5 [.ref zA, .ref spA, .ref svA, .int (iI nsv), .ref soA, .ref ikA, .ref txA, .int (iI len), .int (iI thr_2), .int (iI nvi), .ref viA, .int (iI low), .int (iI high), .ref srA, .ref frA, .ref toA, .ref hoA, .ref keA, .int (iI nto), .int (iI spo), .int (iI mos)], aI t zA 646 z, aI t spA 646 sp, aI t svA 3876 sv, aI t soA 1292 so, aZ t ikA 2 ik, aI t txA 60 tx, aI t viA 120 vi, aI t srA 120 sr, aI t frA 122 fr, aI t toA 122 to, aI t hoA 31 ho, aI t keA 31 ke]) (pmI [0, 1, 2, 3, 4, 5, 6, 7, 8, 9, 10, 11, 12] 13 rfl (by decide +kernel) rfl) ?_
    refine V_if_eq (tgt := 21) hc dX5_execute_16 (by decide) hv (fun hv => ?_) (fun hv => ?_)
    · refine V_aload_n hc dX5_execute_21 0 rfl ?_
      refine V_callVV (As := []) hc (wc := [oB hM 5 [.ref zA, .ref spA, .ref svA, .int (iI nsv), .ref soA, .ref ikA, .ref txA, .int (iI len), .int (iI thr_2), .int (iI nvi), .ref viA, .int (iI low), .int (iI high), .ref srA, .ref frA, .ref toA, .ref hoA, .ref keA, .int (iI nto), .int (iI spo), .int (iI mos)], aI t zA 646 z, aI t spA 646 sp, aI t svA 3876 sv, aI t soA 1292 so, aZ t ikA 2 ik, aI t txA 60 tx, aI t viA 120 vi, aI t srA 120 sr, aI t frA 122 fr, aI t toA 122 to, aI t hoA 31 ho, aI t keA 31 ke]) (wr := []) (pmI [0, 1, 2, 3, 4, 5, 6, 7, 8, 9, 10, 11, 12] 13 rfl (by decide +kernel) rfl) rfl rfl (met_X5_saveState l D t hM zA spA svA soA ikA txA viA srA frA toA hoA keA nsv len thr_2 nvi low high nto spo mos z sp sv so ik tx vi sr fr to ho ke _ hv) rfl gX5_execute_X5_saveState rfl ⟨rfl, rfl⟩ ok_X5_saveState (by decide) (Nat.le_of_ble_eq_true rfl) dX5_execute_22 (by decide) (fun u9 hv => ?_)
      obtain ⟨nsv_3, sv_3⟩ := u9
      try dsimp only at hv
      refine V_perm (ws1 := [oB hM 5 [.ref zA, .ref spA, .ref svA, .int (iI nsv_3), .ref soA, .ref ikA, .ref txA, .int (iI len), .int (iI thr_2), .int (iI nvi), .ref viA, .int (iI low), .int (iI high), .ref srA, .ref frA, .ref toA, .ref hoA, .ref keA, .int (iI nto), .int (iI spo), .int (iI mos)], aI t zA 646 z, aI t spA 646 sp, aI t svA 3876 sv_3, aI t soA 1292 so, aZ t ikA 2 ik, aI t txA 60 tx, aI t viA 120 vi, aI t srA 120 sr, aI t frA 122 fr, aI t toA 122 to, aI t hoA 31 ho, aI t keA 31 ke]) (pmI [0, 1, 2, 3, 4, 5, 6, 7, 8, 9, 10, 11, 12] 13 rfl (by decide +kernel) rfl) ?_
      refine V_iconst hc dX5_execute_25 ?_
      refine V_istore_n hc dX5_execute_26 [(1, .int (iI 0)), (0, .ref hM)] (by decide) rfl ?_
      refine V_lv [1, 0] [(0, .ref hM), (1, .int (iI 0))] rfl ?_
      obtain ⟨n9, hv⟩ := hv
      exact L_27 nsv_3 len thr_2 nto spo sv_3 tx ho ke n9 nvi low high z vi sr fr to 0 hv
    · refine V_iconst hc dX5_execute_19 ?_
      exact V_iret hc hr (nsv, len, thr_2, nvi, low, high, nto, spo, z, sv, vi, sr, fr, to, ho, ke) hv rfl dX5_execute_20
  refine V_lv [0] [(0, .ref hM)] rfl ?_
  unfold wp_X5_execute at hv
  refine V_aload_n hc dX5_execute_0 0 rfl ?_
  refine V_aload_n hc dX5_execute_1 0 rfl ?_
  refine V_callVI (As := []) hc (wc := [oB hM 5 [.ref zA, .ref spA, .ref svA, .int (iI nsv), .ref soA, .ref ikA, .ref txA, .int (iI len), .int (iI thr), .int (iI nvi), .ref viA, .int (iI low), .int (iI high), .ref srA, .ref frA, .ref toA, .ref hoA, .ref keA, .int (iI nto), .int (iI spo), .int (iI mos)], aI t zA 646 z, aI t spA 646 sp, aI t svA 3876 sv, aI t soA 1292 so, aZ t ikA 2 ik, aI t txA 60 tx, aI t viA 120 vi, aI t srA 120 sr, aI t frA 122 fr, aI t toA 122 to, aI t hoA 31 ho, aI t keA 31 ke]) (wr := []) (pmI [0, 1, 2, 3, 4, 5, 6, 7, 8, 9, 10, 11, 12] 13 rfl (by decide +kernel) rfl) rfl rfl (met_X5_readText l D t hM zA spA svA soA ikA txA viA srA frA toA hoA keA nsv len thr nvi low high nto spo mos z sp sv so ik tx vi sr fr to ho ke _ hv) rfl gX5_execute_X5_readText rfl ⟨rfl, rfl⟩ ok_X5_readText (by decide) (Nat.le_of_ble_eq_true rfl) dX5_execute_2 (by decide) (fun r_1 u9 hv => ?_)
  obtain ⟨nto_1, spo_1, ho_1, ke_1⟩ := u9
  try dsimp only at hv
  refine V_perm (ws1 := [oB hM 5 [.ref zA, .ref spA, .ref svA, .int (iI nsv), .ref soA, .ref ikA, .ref txA, .int (iI len), .int (iI thr), .int (iI nvi), .ref viA, .int (iI low), .int (iI high), .ref srA, .ref frA, .ref toA, .ref hoA, .ref keA, .int (iI nto_1), .int (iI spo_1), .int (iI mos)], aI t zA 646 z, aI t spA 646 sp, aI t svA 3876 sv, aI t soA 1292 so, aZ t ikA 2 ik, aI t txA 60 tx, aI t viA 120 vi, aI t srA 120 sr, aI t frA 122 fr, aI t toA 122 to, aI t hoA 31 ho_1, aI t keA 31 ke_1]) (pmI [0, 1, 2, 3, 4, 5, 6, 7, 8, 9, 10, 11, 12] 13 rfl (by decide +kernel) rfl) ?_
  refine V_if_eq (tgt := 12) hc dX5_execute_5 (by decide) hv (fun hv => ?_) (fun hv => ?_)
  · refine V_iconst hc dX5_execute_12 ?_
    exact C_13 nsv len thr nvi low high nto_1 spo_1 z sv tx vi sr fr to ho_1 ke_1 1 hv
  · refine V_iconst hc dX5_execute_8 ?_
    refine V_goto (tgt := 13) hc dX5_execute_9 (by decide) ?_
    exact C_13 nsv len thr nvi low high nto_1 spo_1 z sv tx vi sr fr to ho_1 ke_1 0 hv
abbrev W1_X5_undo (t : Nat → ClassId) (hM : Nat) (zA : Nat) (spA : Nat) (svA : Nat) (soA : Nat) (ikA : Nat) (txA : Nat) (viA : Nat) (srA : Nat) (frA : Nat) (toA : Nat) (hoA : Nat) (keA : Nat) (len : Int) (nvi : Int) (low : Int) (high : Int) (nto : Int) (spo : Int) (mos : Int) (sp : Nat → Int) (sv : Nat → Int) (so : Nat → Int) (ik : Nat → Int) (tx : Nat → Int) (vi : Nat → Int) (sr : Nat → Int) (fr : Nat → Int) (to : Nat → Int) (ho : Nat → Int) (ke : Nat → Int) (u : (Int) × (Int) × (Nat → Int)) : va_W := [oB hM 5 [.ref zA, .ref spA, .ref svA, .int (iI u.1), .ref soA, .ref ikA, .ref txA, .int (iI len), .int (iI u.2.1), .int (iI nvi), .ref viA, .int (iI low), .int (iI high), .ref srA, .ref frA, .ref toA, .ref hoA, .ref keA, .int (iI nto), .int (iI spo), .int (iI mos)], aI t zA 646 u.2.2, aI t spA 646 sp, aI t svA 3876 sv, aI t soA 1292 so, aZ t ikA 2 ik, aI t txA 60 tx, aI t viA 120 vi, aI t srA 120 sr, aI t frA 122 fr, aI t toA 122 to, aI t hoA 31 ho, aI t keA 31 ke]
abbrev po_X5_undo (Q : Int → (Int) → (Int) → (Nat → Int) → Prop) (r : Int) (u : (Int) × (Int) × (Nat → Int)) : Prop := Q r u.1 u.2.1 u.2.2
abbrev rm_X5_undo : Room := { frames := 1, cells := 0, slots := 0, locals := 24 }
def wp_X5_undo_13 (nsv : Int) (thr : Int) (z : Nat → Int) (sv : Nat → Int) (s0 : Int) (Q : Int → (Int) → (Int) → (Nat → Int) → Prop) : Prop := wp_X5_refused thr s0 (fun r_1 thr_1 => inR r_1 ∧ (r_1 = 0 → wp_X5_copyState 3876 646 sv z (646 * (nsv - 1)) 0 (fun z_2 => Q (nsv - 1) (nsv - 1) thr_1 z_2)) ∧ (¬ (r_1 = 0) → Q 0 nsv thr_1 z))
def wp_X5_undo (nsv : Int) (thr : Int) (z : Nat → Int) (sv : Nat → Int) (Q : Int → (Int) → (Int) → (Nat → Int) → Prop) : Prop := inR nsv ∧ (nsv ≠ 0 → wp_X5_undo_13 nsv thr z sv 0 Q) ∧ (¬ (nsv ≠ 0) → wp_X5_undo_13 nsv thr z sv 1 Q)
theorem m_X5_undo_55 : Cond.fieldLink RX5 55 "BackgroundRebuildModel" "savedMany" "I" ∈ wsX5_undo := by decide +kernel
theorem m_X5_undo_16 : Cond.fieldLink RX5 16 "BackgroundRebuildModel" "saved" "[I" ∈ wsX5_undo := by decide +kernel
theorem m_X5_undo_7 : Cond.fieldLink RX5 7 "BackgroundRebuildModel" "z" "[I" ∈ wsX5_undo := by decide +kernel
theorem i_X5_undo_5 : ∀ w ∈ u_ws RX5 TX5 21, w ∈ wsX5_undo := by decide +kernel
theorem ok_X5_undo : yX5_undo.cls = RX5 ∧ yX5_undo.cls ≠ "java/lang/invoke/MethodHandle" ∧ yX5_undo.cls ≠ "java/lang/invoke/VarHandle" ∧ (parseMethodDescriptor yX5_undo.desc).map (fun d => d.parameters.length) = some 0 := by decide +kernel
set_option maxHeartbeats 4000000 in
set_option maxRecDepth 100000 in
theorem met_X5_undo (l : Launch) (D : va_G) (t : Nat → ClassId) (hM : Nat) (zA : Nat) (spA : Nat) (svA : Nat) (soA : Nat) (ikA : Nat) (txA : Nat) (viA : Nat) (srA : Nat) (frA : Nat) (toA : Nat) (hoA : Nat) (keA : Nat) (nsv : Int) (len : Int) (thr : Int) (nvi : Int) (low : Int) (high : Int) (nto : Int) (spo : Int) (mos : Int) (z : Nat → Int) (sp : Nat → Int) (sv : Nat → Int) (so : Nat → Int) (ik : Nat → Int) (tx : Nat → Int) (vi : Nat → Int) (sr : Nat → Int) (fr : Nat → Int) (to : Nat → Int) (ho : Nat → Int) (ke : Nat → Int) (Q : Int → (Int) → (Int) → (Nat → Int) → Prop) (hv : wp_X5_undo nsv thr z sv Q) : MI l D t yX5_undo wsX5_undo rm_X5_undo [.ref hM] [oB hM 5 [.ref zA, .ref spA, .ref svA, .int (iI nsv), .ref soA, .ref ikA, .ref txA, .int (iI len), .int (iI thr), .int (iI nvi), .ref viA, .int (iI low), .int (iI high), .ref srA, .ref frA, .ref toA, .ref hoA, .ref keA, .int (iI nto), .int (iI spo), .int (iI mos)], aI t zA 646 z, aI t spA 646 sp, aI t svA 3876 sv, aI t soA 1292 so, aZ t ikA 2 ik, aI t txA 60 tx, aI t viA 120 vi, aI t srA 120 sr, aI t frA 122 fr, aI t toA 122 to, aI t hoA 31 ho, aI t keA 31 ke] (W1_X5_undo t hM zA spA svA soA ikA txA viA srA frA toA hoA keA len nvi low high nto spo mos sp sv so ik tx vi sr fr to ho ke) (po_X5_undo Q) 0 0 := by
  refine M_ofi (cc := cX5_undo) (nL := 1) (by decide) rfl (Nat.le_of_ble_eq_true rfl) ?_
  intro p e s m args below meth c A hc hr
  have C_13 : ∀ (nsv : Int) (thr : Int) (z : Nat → Int) (sv : Nat → Int) (s0 : Int), wp_X5_undo_13 nsv thr z sv s0 Q → V p l e rm_X5_undo s m args below meth c D A 1 0 0 (MQ below (QI D A (W1_X5_undo t hM zA spA svA soA ikA txA viA srA frA toA hoA keA len nvi low high nto spo mos sp sv so ik tx vi sr fr to ho ke) (po_X5_undo Q)) args s 0 0 A) 13 [(0, .ref hM)] [.int (iI s0), .ref hM] [oB hM 5 [.ref zA, .ref spA, .ref svA, .int (iI nsv), .ref soA, .ref ikA, .ref txA, .int (iI len), .int (iI thr), .int (iI nvi), .ref viA, .int (iI low), .int (iI high), .ref srA, .ref frA, .ref toA, .ref hoA, .ref keA, .int (iI nto), .int (iI spo), .int (iI mos)], aI t zA 646 z, aI t spA 646 sp, aI t svA 3876 sv, aI t soA 1292 so, aZ t ikA 2 ik, aI t txA 60 tx, aI t viA 120 vi, aI t srA 120 sr, aI t frA 122 fr, aI t toA 122 to, aI t hoA 31 ho, aI t keA 31 ke] := by
    intro nsv thr z sv s0 hv
    unfold wp_X5_undo_13 at hv
    refine V_callVI (As := [.int (iI s0)]) hc (wc := [oB hM 5 [.ref zA, .ref spA, .ref svA, .int (iI nsv), .ref soA, .ref ikA, .ref txA, .int (iI len), .int (iI thr), .int (iI nvi), .ref viA, .int (iI low), .int (iI high), .ref srA, .ref frA, .ref toA, .ref hoA, .ref keA, .int (iI nto), .int (iI spo), .int (iI mos)], aI t zA 646 z, aI t spA 646 sp, aI t svA 3876 sv, aI t soA 1292 so, aZ t ikA 2 ik, aI t txA 60 tx, aI t viA 120 vi, aI t srA 120 sr, aI t frA 122 fr, aI t toA 122 to, aI t hoA 31 ho, aI t keA 31 ke]) (wr := []) (pmI [0, 1, 2, 3, 4, 5, 6, 7, 8, 9, 10, 11, 12] 13 rfl (by decide +kernel) rfl) rfl rfl (met_X5_refused l D t hM zA spA svA soA ikA txA viA srA frA toA hoA keA nsv len thr nvi low high nto spo mos z sp sv so ik tx vi sr fr to ho ke s0 _ hv) rfl gX5_undo_X5_refused rfl ⟨rfl, rfl⟩ ok_X5_refused (by decide) (Nat.le_of_ble_eq_true rfl) dX5_undo_13 (by decide) (fun r_1 u9 hv => ?_)
    obtain ⟨thr_1, h9⟩ : ∃ z, z = u9 := ⟨_, rfl⟩
    subst h9
    try dsimp only at hv
    refine V_perm (ws1 := [oB hM 5 [.ref zA, .ref spA, .ref svA, .int (iI nsv), .ref soA, .ref ikA, .ref txA, .int (iI len), .int (iI thr_1), .int (iI nvi), .ref viA, .int (iI low), .int (iI high), .ref srA, .ref frA, .ref toA, .ref hoA, .ref keA, .int (iI nto), .int (iI spo), .int (iI mos)], aI t zA 646 z, aI t spA 646 sp, aI t svA 3876 sv, aI t soA 1292 so, aZ t ikA 2 ik, aI t txA 60 tx, aI t viA 120 vi, aI t srA 120 sr, aI t frA 122 fr, aI t toA 122 to, aI t hoA 31 ho, aI t keA 31 ke]) (pmI [0, 1, 2, 3, 4, 5, 6, 7, 8, 9, 10, 11, 12] 13 rfl (by decide +kernel) rfl) ?_
    refine V_if_eq (tgt := 21) hc dX5_undo_16 (by decide) hv (fun hv => ?_) (fun hv => ?_)
    · refine V_aload_n hc dX5_undo_21 0 rfl ?_
      refine V_dup hc dX5_undo_22 rfl ?_
      refine V_get (C := RX5) (T := TX5) (N := 21) hc i_X5_undo_5 0 rfl rfl 3 (by decide) m_X5_undo_55 rfl dX5_undo_23 ?_
      refine V_iconst hc dX5_undo_26 ?_
      refine V_isub hc dX5_undo_27 ?_
      refine V_puti (C := RX5) (T := TX5) (N := 21) hc i_X5_undo_5 0 rfl rfl 3 (by decide) m_X5_undo_55 tyX5 tyX5_ok nmX5 rfl (by decide +kernel) (Nat.le_of_ble_eq_true rfl) dX5_undo_28 [oB hM 5 [.ref zA, .ref spA, .ref svA, .int (iI (nsv - 1)), .ref soA, .ref ikA, .ref txA, .int (iI len), .int (iI thr_1), .int (iI nvi), .ref viA, .int (iI low), .int (iI high), .ref srA, .ref frA, .ref toA, .ref hoA, .ref keA, .int (iI nto), .int (iI spo), .int (iI mos)], aI t zA 646 z, aI t spA 646 sp, aI t svA 3876 sv, aI t soA 1292 so, aZ t ikA 2 ik, aI t txA 60 tx, aI t viA 120 vi, aI t srA 120 sr, aI t frA 122 fr, aI t toA 122 to, aI t hoA 31 ho, aI t keA 31 ke] rfl ?_
      refine V_aload_n hc dX5_undo_31 0 rfl ?_
      refine V_get (C := RX5) (T := TX5) (N := 21) hc i_X5_undo_5 0 rfl rfl 2 (by decide) m_X5_undo_16 rfl dX5_undo_32 ?_
      refine V_sipush hc dX5_undo_35 (by decide) ?_
      refine V_aload_n hc dX5_undo_38 0 rfl ?_
      refine V_get (C := RX5) (T := TX5) (N := 21) hc i_X5_undo_5 0 rfl rfl 3 (by decide) m_X5_undo_55 rfl dX5_undo_39 ?_
      refine V_imul hc dX5_undo_42 ?_
      refine V_aload_n hc dX5_undo_43 0 rfl ?_
      refine V_get (C := RX5) (T := TX5) (N := 21) hc i_X5_undo_5 0 rfl rfl 0 (by decide) m_X5_undo_7 rfl dX5_undo_44 ?_
      refine V_iconst hc dX5_undo_47 ?_
      refine V_callSV (As := [.ref svA, .int (iI (646 * (nsv - 1))), .ref zA, .int (iI 0)]) hc (wc := [aI t svA 3876 sv, aI t zA 646 z]) (wr := [oB hM 5 [.ref zA, .ref spA, .ref svA, .int (iI (nsv - 1)), .ref soA, .ref ikA, .ref txA, .int (iI len), .int (iI thr_1), .int (iI nvi), .ref viA, .int (iI low), .int (iI high), .ref srA, .ref frA, .ref toA, .ref hoA, .ref keA, .int (iI nto), .int (iI spo), .int (iI mos)], aI t spA 646 sp, aI t soA 1292 so, aZ t ikA 2 ik, aI t txA 60 tx, aI t viA 120 vi, aI t srA 120 sr, aI t frA 122 fr, aI t toA 122 to, aI t hoA 31 ho, aI t keA 31 ke]) (pmI [3, 1, 0, 2, 4, 5, 6, 7, 8, 9, 10, 11, 12] 13 rfl (by decide +kernel) rfl) (met_X5_copyState l D t svA zA 3876 646 (by decide) (by decide) sv z (646 * (nsv - 1)) 0 _ hv) rfl gX5_undo_X5_copyState rfl ⟨rfl, rfl⟩ ok_X5_copyState (by decide) (Nat.le_of_ble_eq_true rfl) dX5_undo_48 (by decide) (fun u9 hv => ?_)
      obtain ⟨z_2, h9⟩ : ∃ z, z = u9 := ⟨_, rfl⟩
      subst h9
      try dsimp only at hv
      refine V_perm (ws1 := [oB hM 5 [.ref zA, .ref spA, .ref svA, .int (iI (nsv - 1)), .ref soA, .ref ikA, .ref txA, .int (iI len), .int (iI thr_1), .int (iI nvi), .ref viA, .int (iI low), .int (iI high), .ref srA, .ref frA, .ref toA, .ref hoA, .ref keA, .int (iI nto), .int (iI spo), .int (iI mos)], aI t zA 646 z_2, aI t spA 646 sp, aI t svA 3876 sv, aI t soA 1292 so, aZ t ikA 2 ik, aI t txA 60 tx, aI t viA 120 vi, aI t srA 120 sr, aI t frA 122 fr, aI t toA 122 to, aI t hoA 31 ho, aI t keA 31 ke]) (pmI [2, 1, 3, 0, 4, 5, 6, 7, 8, 9, 10, 11, 12] 13 rfl (by decide +kernel) rfl) ?_
      refine V_aload_n hc dX5_undo_51 0 rfl ?_
      refine V_get (C := RX5) (T := TX5) (N := 21) hc i_X5_undo_5 0 rfl rfl 3 (by decide) m_X5_undo_55 rfl dX5_undo_52 ?_
      exact V_iret hc hr (nsv - 1, thr_1, z_2) hv rfl dX5_undo_55
    · refine V_iconst hc dX5_undo_19 ?_
      exact V_iret hc hr (nsv, thr_1, z) hv rfl dX5_undo_20
  refine V_lv [0] [(0, .ref hM)] rfl ?_
  unfold wp_X5_undo at hv
  refine V_aload_n hc dX5_undo_0 0 rfl ?_
  refine V_aload_n hc dX5_undo_1 0 rfl ?_
  refine V_get (C := RX5) (T := TX5) (N := 21) hc i_X5_undo_5 0 rfl rfl 3 (by decide) m_X5_undo_55 rfl dX5_undo_2 ?_
  refine V_if_ne (tgt := 12) hc dX5_undo_5 (by decide) hv (fun hv => ?_) (fun hv => ?_)
  · refine V_iconst hc dX5_undo_12 ?_
    exact C_13 nsv thr z sv 0 hv
  · refine V_iconst hc dX5_undo_8 ?_
    refine V_goto (tgt := 13) hc dX5_undo_9 (by decide) ?_
    exact C_13 nsv thr z sv 1 hv
abbrev W1_X5_keep (t : Nat → ClassId) (hM : Nat) (zA : Nat) (spA : Nat) (svA : Nat) (soA : Nat) (ikA : Nat) (txA : Nat) (viA : Nat) (srA : Nat) (frA : Nat) (toA : Nat) (hoA : Nat) (keA : Nat) (nsv : Int) (len : Int) (nvi : Int) (low : Int) (high : Int) (nto : Int) (spo : Int) (mos : Int) (z : Nat → Int) (sp : Nat → Int) (sv : Nat → Int) (tx : Nat → Int) (vi : Nat → Int) (sr : Nat → Int) (fr : Nat → Int) (to : Nat → Int) (ho : Nat → Int) (ke : Nat → Int) (u : (Int) × (Nat → Int) × (Nat → Int)) : va_W := [oB hM 5 [.ref zA, .ref spA, .ref svA, .int (iI nsv), .ref soA, .ref ikA, .ref txA, .int (iI len), .int (iI u.1), .int (iI nvi), .ref viA, .int (iI low), .int (iI high), .ref srA, .ref frA, .ref toA, .ref hoA, .ref keA, .int (iI nto), .int (iI spo), .int (iI mos)], aI t zA 646 z, aI t spA 646 sp, aI t svA 3876 sv, aI t soA 1292 u.2.1, aZ t ikA 2 u.2.2, aI t txA 60 tx, aI t viA 120 vi, aI t srA 120 sr, aI t frA 122 fr, aI t toA 122 to, aI t hoA 31 ho, aI t keA 31 ke]
abbrev po_X5_keep (Q : Int → (Int) → (Nat → Int) → (Nat → Int) → Prop) (r : Int) (u : (Int) × (Nat → Int) × (Nat → Int)) : Prop := Q r u.1 u.2.1 u.2.2
abbrev rm_X5_keep : Room := { frames := 2, cells := 0, slots := 0, locals := 44 }
def wp_X5_keep_15 (thr : Int) (z : Nat → Int) (so : Nat → Int) (ik : Nat → Int) (x1 : Int) (s0 : Int) (Q : Int → (Int) → (Nat → Int) → (Nat → Int) → Prop) : Prop := wp_X5_refused thr s0 (fun r_2 thr_2 => inR r_2 ∧ (r_2 = 0 → wp_X5_copyState 646 1292 z so 0 (646 * x1) (fun so_3 => (0 ≤ x1 ∧ x1 < 2) ∧ wp_X5_presentIn z 0 (fun r_4 => Q r_4 thr_2 so_3 (uI ik (x1.toNat) 1)))) ∧ (¬ (r_2 = 0) → Q 0 thr_2 so ik))
def wp_X5_keep (thr : Int) (z : Nat → Int) (so : Nat → Int) (ik : Nat → Int) (x1 : Int) (Q : Int → (Int) → (Nat → Int) → (Nat → Int) → Prop) : Prop := wp_X5_in x1 0 1 (fun r_1 => inR r_1 ∧ (r_1 = 0 → wp_X5_keep_15 thr z so ik x1 1 Q) ∧ (¬ (r_1 = 0) → wp_X5_keep_15 thr z so ik x1 0 Q))
theorem m_X5_keep_7 : Cond.fieldLink RX5 7 "BackgroundRebuildModel" "z" "[I" ∈ wsX5_keep := by decide +kernel
theorem m_X5_keep_19 : Cond.fieldLink RX5 19 "BackgroundRebuildModel" "slots" "[I" ∈ wsX5_keep := by decide +kernel
theorem m_X5_keep_22 : Cond.fieldLink RX5 22 "BackgroundRebuildModel" "isKept" "[Z" ∈ wsX5_keep := by decide +kernel
theorem i_X5_keep_5 : ∀ w ∈ u_ws RX5 TX5 21, w ∈ wsX5_keep := by decide +kernel
theorem ok_X5_keep : yX5_keep.cls = RX5 ∧ yX5_keep.cls ≠ "java/lang/invoke/MethodHandle" ∧ yX5_keep.cls ≠ "java/lang/invoke/VarHandle" ∧ (parseMethodDescriptor yX5_keep.desc).map (fun d => d.parameters.length) = some 1 := by decide +kernel
set_option maxHeartbeats 4000000 in
set_option maxRecDepth 100000 in
theorem met_X5_keep (l : Launch) (D : va_G) (t : Nat → ClassId) (hM : Nat) (zA : Nat) (spA : Nat) (svA : Nat) (soA : Nat) (ikA : Nat) (txA : Nat) (viA : Nat) (srA : Nat) (frA : Nat) (toA : Nat) (hoA : Nat) (keA : Nat) (nsv : Int) (len : Int) (thr : Int) (nvi : Int) (low : Int) (high : Int) (nto : Int) (spo : Int) (mos : Int) (z : Nat → Int) (sp : Nat → Int) (sv : Nat → Int) (so : Nat → Int) (ik : Nat → Int) (tx : Nat → Int) (vi : Nat → Int) (sr : Nat → Int) (fr : Nat → Int) (to : Nat → Int) (ho : Nat → Int) (ke : Nat → Int) (x1 : Int) (Q : Int → (Int) → (Nat → Int) → (Nat → Int) → Prop) (hv : wp_X5_keep thr z so ik x1 Q) : MI l D t yX5_keep wsX5_keep rm_X5_keep [.ref hM, .int (iI x1)] [oB hM 5 [.ref zA, .ref spA, .ref svA, .int (iI nsv), .ref soA, .ref ikA, .ref txA, .int (iI len), .int (iI thr), .int (iI nvi), .ref viA, .int (iI low), .int (iI high), .ref srA, .ref frA, .ref toA, .ref hoA, .ref keA, .int (iI nto), .int (iI spo), .int (iI mos)], aI t zA 646 z, aI t spA 646 sp, aI t svA 3876 sv, aI t soA 1292 so, aZ t ikA 2 ik, aI t txA 60 tx, aI t viA 120 vi, aI t srA 120 sr, aI t frA 122 fr, aI t toA 122 to, aI t hoA 31 ho, aI t keA 31 ke] (W1_X5_keep t hM zA spA svA soA ikA txA viA srA frA toA hoA keA nsv len nvi low high nto spo mos z sp sv tx vi sr fr to ho ke) (po_X5_keep Q) 0 0 := by
  refine M_ofi (cc := cX5_keep) (nL := 2) (by decide) rfl (Nat.le_of_ble_eq_true rfl) ?_
  intro p e s m args below meth c A hc hr
  have C_15 : ∀ (thr : Int) (z : Nat → Int) (so : Nat → Int) (ik : Nat → Int) (x1 : Int) (s0 : Int), wp_X5_keep_15 thr z so ik x1 s0 Q → V p l e rm_X5_keep s m args below meth c D A 2 0 0 (MQ below (QI D A (W1_X5_keep t hM zA spA svA soA ikA txA viA srA frA toA hoA keA nsv len nvi low high nto spo mos z sp sv tx vi sr fr to ho ke) (po_X5_keep Q)) args s 0 0 A) 15 [(0, .ref hM), (1, .int (iI x1))] [.int (iI s0), .ref hM] [oB hM 5 [.ref zA, .ref spA, .ref svA, .int (iI nsv), .ref soA, .ref ikA, .ref txA, .int (iI len), .int (iI thr), .int (iI nvi), .ref viA, .int (iI low), .int (iI high), .ref srA, .ref frA, .ref toA, .ref hoA, .ref keA, .int (iI nto), .int (iI spo), .int (iI mos)], aI t zA 646 z, aI t spA 646 sp, aI t svA 3876 sv, aI t soA 1292 so, aZ t ikA 2 ik, aI t txA 60 tx, aI t viA 120 vi, aI t srA 120 sr, aI t frA 122 fr, aI t toA 122 to, aI t hoA 31 ho, aI t keA 31 ke] := by
    intro thr z so ik x1 s0 hv
    unfold wp_X5_keep_15 at hv
    refine V_callVI (As := [.int (iI s0)]) hc (wc := [oB hM 5 [.ref zA, .ref spA, .ref svA, .int (iI nsv), .ref soA, .ref ikA, .ref txA, .int (iI len), .int (iI thr), .int (iI nvi), .ref viA, .int (iI low), .int (iI high), .ref srA, .ref frA, .ref toA, .ref hoA, .ref keA, .int (iI nto), .int (iI spo), .int (iI mos)], aI t zA 646 z, aI t spA 646 sp, aI t svA 3876 sv, aI t soA 1292 so, aZ t ikA 2 ik, aI t txA 60 tx, aI t viA 120 vi, aI t srA 120 sr, aI t frA 122 fr, aI t toA 122 to, aI t hoA 31 ho, aI t keA 31 ke]) (wr := []) (pmI [0, 1, 2, 3, 4, 5, 6, 7, 8, 9, 10, 11, 12] 13 rfl (by decide +kernel) rfl) rfl rfl (met_X5_refused l D t hM zA spA svA soA ikA txA viA srA frA toA hoA keA nsv len thr nvi low high nto spo mos z sp sv so ik tx vi sr fr to ho ke s0 _ hv) rfl gX5_keep_X5_refused rfl ⟨rfl, rfl⟩ ok_X5_refused (by decide) (Nat.le_of_ble_eq_true rfl) dX5_keep_15 (by decide) (fun r_2 u9 hv => ?_)
    obtain ⟨thr_2, h9⟩ : ∃ z, z = u9 := ⟨_, rfl⟩
    subst h9
    try dsimp only at hv
    refine V_perm (ws1 := [oB hM 5 [.ref zA, .ref spA, .ref svA, .int (iI nsv), .ref soA, .ref ikA, .ref txA, .int (iI len), .int (iI thr_2), .int (iI nvi), .ref viA, .int (iI low), .int (iI high), .ref srA, .ref frA, .ref toA, .ref hoA, .ref keA, .int (iI nto), .int (iI spo), .int (iI mos)], aI t zA 646 z, aI t spA 646 sp, aI t svA 3876 sv, aI t soA 1292 so, aZ t ikA 2 ik, aI t txA 60 tx, aI t viA 120 vi, aI t srA 120 sr, aI t frA 122 fr, aI t toA 122 to, aI t hoA 31 ho, aI t keA 31 ke]) (pmI [0, 1, 2, 3, 4, 5, 6, 7, 8, 9, 10, 11, 12] 13 rfl (by decide +kernel) rfl) ?_
    refine V_if_eq (tgt := 23) hc dX5_keep_18 (by decide) hv (fun hv => ?_) (fun hv => ?_)
    · refine V_aload_n hc dX5_keep_23 0 rfl ?_
      refine V_get (C := RX5) (T := TX5) (N := 21) hc i_X5_keep_5 0 rfl rfl 0 (by decide) m_X5_keep_7 rfl dX5_keep_24 ?_
      refine V_iconst hc dX5_keep_27 ?_
      refine V_aload_n hc dX5_keep_28 0 rfl ?_
      refine V_get (C := RX5) (T := TX5) (N := 21) hc i_X5_keep_5 0 rfl rfl 4 (by decide) m_X5_keep_19 rfl dX5_keep_29 ?_
      refine V_sipush hc dX5_keep_32 (by decide) ?_
      refine V_iload_n hc dX5_keep_35 1 rfl ?_
      refine V_imul hc dX5_keep_36 ?_
      refine V_callSV (As := [.ref zA, .int (iI 0), .ref soA, .int (iI (646 * x1))]) hc (wc := [aI t zA 646 z, aI t soA 1292 so]) (wr := [oB hM 5 [.ref zA, .ref spA, .ref svA, .int (iI nsv), .ref soA, .ref ikA, .ref txA, .int (iI len), .int (iI thr_2), .int (iI nvi), .ref viA, .int (iI low), .int (iI high), .ref srA, .ref frA, .ref toA, .ref hoA, .ref keA, .int (iI nto), .int (iI spo), .int (iI mos)], aI t spA 646 sp, aI t svA 3876 sv, aZ t ikA 2 ik, aI t txA 60 tx, aI t viA 120 vi, aI t srA 120 sr, aI t frA 122 fr, aI t toA 122 to, aI t hoA 31 ho, aI t keA 31 ke]) (pmI [1, 4, 0, 2, 3, 5, 6, 7, 8, 9, 10, 11, 12] 13 rfl (by decide +kernel) rfl) (met_X5_copyState l D t zA soA 646 1292 (by decide) (by decide) z so 0 (646 * x1) _ hv) rfl gX5_keep_X5_copyState rfl ⟨rfl, rfl⟩ ok_X5_copyState (by decide) (Nat.le_of_ble_eq_true rfl) dX5_keep_37 (by decide) (fun u9 hv => ?_)
      obtain ⟨so_3, h9⟩ : ∃ z, z = u9 := ⟨_, rfl⟩
      subst h9
      try dsimp only at hv
      refine V_perm (ws1 := [oB hM 5 [.ref zA, .ref spA, .ref svA, .int (iI nsv), .ref soA, .ref ikA, .ref txA, .int (iI len), .int (iI thr_2), .int (iI nvi), .ref viA, .int (iI low), .int (iI high), .ref srA, .ref frA, .ref toA, .ref hoA, .ref keA, .int (iI nto), .int (iI spo), .int (iI mos)], aI t zA 646 z, aI t spA 646 sp, aI t svA 3876 sv, aI t soA 1292 so_3, aZ t ikA 2 ik, aI t txA 60 tx, aI t viA 120 vi, aI t srA 120 sr, aI t frA 122 fr, aI t toA 122 to, aI t hoA 31 ho, aI t keA 31 ke]) (pmI [2, 0, 3, 4, 1, 5, 6, 7, 8, 9, 10, 11, 12] 13 rfl (by decide +kernel) rfl) ?_
      refine V_aload_n hc dX5_keep_40 0 rfl ?_
      refine V_get (C := RX5) (T := TX5) (N := 21) hc i_X5_keep_5 0 rfl rfl 5 (by decide) m_X5_keep_22 rfl dX5_keep_41 ?_
      refine V_iload_n hc dX5_keep_44 1 rfl ?_
      refine V_iconst hc dX5_keep_45 ?_
      refine V_zast hc 5 rfl (by decide) ⟨hv.1, by decide, hv.2⟩ dX5_keep_46 [oB hM 5 [.ref zA, .ref spA, .ref svA, .int (iI nsv), .ref soA, .ref ikA, .ref txA, .int (iI len), .int (iI thr_2), .int (iI nvi), .ref viA, .int (iI low), .int (iI high), .ref srA, .ref frA, .ref toA, .ref hoA, .ref keA, .int (iI nto), .int (iI spo), .int (iI mos)], aI t zA 646 z, aI t spA 646 sp, aI t svA 3876 sv, aI t soA 1292 so_3, aZ t ikA 2 (uI ik (x1.toNat) 1), aI t txA 60 tx, aI t viA 120 vi, aI t srA 120 sr, aI t frA 122 fr, aI t toA 122 to, aI t hoA 31 ho, aI t keA 31 ke] rfl (fun hv => ?_)
      refine V_aload_n hc dX5_keep_47 0 rfl ?_
      refine V_iconst hc dX5_keep_48 ?_
      refine V_callVI (As := [.int (iI 0)]) hc (wc := [oB hM 5 [.ref zA, .ref spA, .ref svA, .int (iI nsv), .ref soA, .ref ikA, .ref txA, .int (iI len), .int (iI thr_2), .int (iI nvi), .ref viA, .int (iI low), .int (iI high), .ref srA, .ref frA, .ref toA, .ref hoA, .ref keA, .int (iI nto), .int (iI spo), .int (iI mos)], aI t zA 646 z, aI t spA 646 sp, aI t svA 3876 sv, aI t soA 1292 so_3, aZ t ikA 2 (uI ik (x1.toNat) 1), aI t txA 60 tx, aI t viA 120 vi, aI t srA 120 sr, aI t frA 122 fr, aI t toA 122 to, aI t hoA 31 ho, aI t keA 31 ke]) (wr := []) (pmI [0, 1, 2, 3, 4, 5, 6, 7, 8, 9, 10, 11, 12] 13 rfl (by decide +kernel) rfl) rfl rfl (met_X5_presentIn l D t hM zA spA svA soA ikA txA viA srA frA toA hoA keA nsv len thr_2 nvi low high nto spo mos z sp sv so_3 (uI ik (x1.toNat) 1) tx vi sr fr to ho ke 0 _ hv) rfl gX5_keep_X5_presentIn rfl ⟨rfl, rfl⟩ ok_X5_presentIn (by decide) (Nat.le_of_ble_eq_true rfl) dX5_keep_49 (by decide) (fun r_4 _ hv => ?_)
      try dsimp only at hv
      refine V_perm (ws1 := [oB hM 5 [.ref zA, .ref spA, .ref svA, .int (iI nsv), .ref soA, .ref ikA, .ref txA, .int (iI len), .int (iI thr_2), .int (iI nvi), .ref viA, .int (iI low), .int (iI high), .ref srA, .ref frA, .ref toA, .ref hoA, .ref keA, .int (iI nto), .int (iI spo), .int (iI mos)], aI t zA 646 z, aI t spA 646 sp, aI t svA 3876 sv, aI t soA 1292 so_3, aZ t ikA 2 (uI ik (x1.toNat) 1), aI t txA 60 tx, aI t viA 120 vi, aI t srA 120 sr, aI t frA 122 fr, aI t toA 122 to, aI t hoA 31 ho, aI t keA 31 ke]) (pmI [0, 1, 2, 3, 4, 5, 6, 7, 8, 9, 10, 11, 12] 13 rfl (by decide +kernel) rfl) ?_
      exact V_iret hc hr (thr_2, so_3, uI ik (x1.toNat) 1) hv rfl dX5_keep_52
    · refine V_iconst hc dX5_keep_21 ?_
      exact V_iret hc hr (thr_2, so, ik) hv rfl dX5_keep_22
  refine V_lv [0, 1] [(0, .ref hM), (1, .int (iI x1))] rfl ?_
  unfold wp_X5_keep at hv
  refine V_aload_n hc dX5_keep_0 0 rfl ?_
  refine V_iload_n hc dX5_keep_1 1 rfl ?_
  refine V_iconst hc dX5_keep_2 ?_
  refine V_iconst hc dX5_keep_3 ?_
  refine V_callSI (As := [.int (iI x1), .int (iI 0), .int (iI 1)]) hc (wc := []) (wr := [oB hM 5 [.ref zA, .ref spA, .ref svA, .int (iI nsv), .ref soA, .ref ikA, .ref txA, .int (iI len), .int (iI thr), .int (iI nvi), .ref viA, .int (iI low), .int (iI high), .ref srA, .ref frA, .ref toA, .ref hoA, .ref keA, .int (iI nto), .int (iI spo), .int (iI mos)], aI t zA 646 z, aI t spA 646 sp, aI t svA 3876 sv, aI t soA 1292 so, aZ t ikA 2 ik, aI t txA 60 tx, aI t viA 120 vi, aI t srA 120 sr, aI t frA 122 fr, aI t toA 122 to, aI t hoA 31 ho, aI t keA 31 ke]) (pmI [0, 1, 2, 3, 4, 5, 6, 7, 8, 9, 10, 11, 12] 13 rfl (by decide +kernel) rfl) (met_X5_in l D t x1 0 1 _ hv) rfl gX5_keep_X5_in rfl ⟨rfl, rfl⟩ ok_X5_in (by decide) (Nat.le_of_ble_eq_true rfl) dX5_keep_4 (by decide) (fun r_1 _ hv => ?_)
  try dsimp only at hv
  refine V_perm (ws1 := [oB hM 5 [.ref zA, .ref spA, .ref svA, .int (iI nsv), .ref soA, .ref ikA, .ref txA, .int (iI len), .int (iI thr), .int (iI nvi), .ref viA, .int (iI low), .int (iI high), .ref srA, .ref frA, .ref toA, .ref hoA, .ref keA, .int (iI nto), .int (iI spo), .int (iI mos)], aI t zA 646 z, aI t spA 646 sp, aI t svA 3876 sv, aI t soA 1292 so, aZ t ikA 2 ik, aI t txA 60 tx, aI t viA 120 vi, aI t srA 120 sr, aI t frA 122 fr, aI t toA 122 to, aI t hoA 31 ho, aI t keA 31 ke]) (pmI [0, 1, 2, 3, 4, 5, 6, 7, 8, 9, 10, 11, 12] 13 rfl (by decide +kernel) rfl) ?_
  refine V_if_eq (tgt := 14) hc dX5_keep_7 (by decide) hv (fun hv => ?_) (fun hv => ?_)
  · refine V_iconst hc dX5_keep_14 ?_
    exact C_15 thr z so ik x1 1 hv
  · refine V_iconst hc dX5_keep_10 ?_
    refine V_goto (tgt := 15) hc dX5_keep_11 (by decide) ?_
    exact C_15 thr z so ik x1 0 hv
abbrev W1_X5_goBack (t : Nat → ClassId) (hM : Nat) (zA : Nat) (spA : Nat) (svA : Nat) (soA : Nat) (ikA : Nat) (txA : Nat) (viA : Nat) (srA : Nat) (frA : Nat) (toA : Nat) (hoA : Nat) (keA : Nat) (len : Int) (nvi : Int) (low : Int) (high : Int) (nto : Int) (spo : Int) (mos : Int) (sp : Nat → Int) (so : Nat → Int) (ik : Nat → Int) (tx : Nat → Int) (vi : Nat → Int) (sr : Nat → Int) (fr : Nat → Int) (to : Nat → Int) (ho : Nat → Int) (ke : Nat → Int) (u : (Int) × (Int) × (Nat → Int) × (Nat → Int)) : va_W := [oB hM 5 [.ref zA, .ref spA, .ref svA, .int (iI u.1), .ref soA, .ref ikA, .ref txA, .int (iI len), .int (iI u.2.1), .int (iI nvi), .ref viA, .int (iI low), .int (iI high), .ref srA, .ref frA, .ref toA, .ref hoA, .ref keA, .int (iI nto), .int (iI spo), .int (iI mos)], aI t zA 646 u.2.2.1, aI t spA 646 sp, aI t svA 3876 u.2.2.2, aI t soA 1292 so, aZ t ikA 2 ik, aI t txA 60 tx, aI t viA 120 vi, aI t srA 120 sr, aI t frA 122 fr, aI t toA 122 to, aI t hoA 31 ho, aI t keA 31 ke]
abbrev po_X5_goBack (Q : Int → (Int) → (Int) → (Nat → Int) → (Nat → Int) → Prop) (r : Int) (u : (Int) × (Int) × (Nat → Int) × (Nat → Int)) : Prop := Q r u.1 u.2.1 u.2.2.1 u.2.2.2
abbrev rm_X5_goBack : Room := { frames := 2, cells := 0, slots := 0, locals := 45 }
def wp_X5_goBack_28 (nsv : Int) (thr : Int) (z : Nat → Int) (sv : Nat → Int) (so : Nat → Int) (ik : Nat → Int) (x1 : Int) (s0 : Int) (Q : Int → (Int) → (Int) → (Nat → Int) → (Nat → Int) → Prop) : Prop := wp_X5_refused thr s0 (fun r_2 thr_2 => inR r_2 ∧ (r_2 = 0 → wp_X5_saveState nsv z sv (fun nsv_3 sv_3 => wp_X5_copyState 1292 646 so z (646 * x1) 0 (fun z_4 => wp_X5_presentIn z_4 0 (fun r_5 => Q r_5 nsv_3 thr_2 z_4 sv_3)))) ∧ (¬ (r_2 = 0) → Q 0 nsv thr_2 z sv))
def wp_X5_goBack (nsv : Int) (thr : Int) (z : Nat → Int) (sv : Nat → Int) (so : Nat → Int) (ik : Nat → Int) (x1 : Int) (Q : Int → (Int) → (Int) → (Nat → Int) → (Nat → Int) → Prop) : Prop := wp_X5_in x1 0 1 (fun r_1 => inR r_1 ∧ (r_1 ≠ 0 → (0 ≤ x1 ∧ x1 < 2) ∧ inR (ik x1.toNat) ∧ (ik x1.toNat = 0 → wp_X5_goBack_28 nsv thr z sv so ik x1 2 Q) ∧ (¬ (ik x1.toNat = 0) → wp_X5_goBack_28 nsv thr z sv so ik x1 0 Q)) ∧ (¬ (r_1 ≠ 0) → wp_X5_goBack_28 nsv thr z sv so ik x1 1 Q))
theorem m_X5_goBack_22 : Cond.fieldLink RX5 22 "BackgroundRebuildModel" "isKept" "[Z" ∈ wsX5_goBack := by decide +kernel
theorem m_X5_goBack_19 : Cond.fieldLink RX5 19 "BackgroundRebuildModel" "slots" "[I" ∈ wsX5_goBack := by decide +kernel
theorem m_X5_goBack_7 : Cond.fieldLink RX5 7 "BackgroundRebuildModel" "z" "[I" ∈ wsX5_goBack := by decide +kernel
theorem i_X5_goBack_5 : ∀ w ∈ u_ws RX5 TX5 21, w ∈ wsX5_goBack := by decide +kernel
theorem ok_X5_goBack : yX5_goBack.cls = RX5 ∧ yX5_goBack.cls ≠ "java/lang/invoke/MethodHandle" ∧ yX5_goBack.cls ≠ "java/lang/invoke/VarHandle" ∧ (parseMethodDescriptor yX5_goBack.desc).map (fun d => d.parameters.length) = some 1 := by decide +kernel
set_option maxHeartbeats 4000000 in
set_option maxRecDepth 100000 in
theorem met_X5_goBack (l : Launch) (D : va_G) (t : Nat → ClassId) (hM : Nat) (zA : Nat) (spA : Nat) (svA : Nat) (soA : Nat) (ikA : Nat) (txA : Nat) (viA : Nat) (srA : Nat) (frA : Nat) (toA : Nat) (hoA : Nat) (keA : Nat) (nsv : Int) (len : Int) (thr : Int) (nvi : Int) (low : Int) (high : Int) (nto : Int) (spo : Int) (mos : Int) (z : Nat → Int) (sp : Nat → Int) (sv : Nat → Int) (so : Nat → Int) (ik : Nat → Int) (tx : Nat → Int) (vi : Nat → Int) (sr : Nat → Int) (fr : Nat → Int) (to : Nat → Int) (ho : Nat → Int) (ke : Nat → Int) (x1 : Int) (Q : Int → (Int) → (Int) → (Nat → Int) → (Nat → Int) → Prop) (hv : wp_X5_goBack nsv thr z sv so ik x1 Q) : MI l D t yX5_goBack wsX5_goBack rm_X5_goBack [.ref hM, .int (iI x1)] [oB hM 5 [.ref zA, .ref spA, .ref svA, .int (iI nsv), .ref soA, .ref ikA, .ref txA, .int (iI len), .int (iI thr), .int (iI nvi), .ref viA, .int (iI low), .int (iI high), .ref srA, .ref frA, .ref toA, .ref hoA, .ref keA, .int (iI nto), .int (iI spo), .int (iI mos)], aI t zA 646 z, aI t spA 646 sp, aI t svA 3876 sv, aI t soA 1292 so, aZ t ikA 2 ik, aI t txA 60 tx, aI t viA 120 vi, aI t srA 120 sr, aI t frA 122 fr, aI t toA 122 to, aI t hoA 31 ho, aI t keA 31 ke] (W1_X5_goBack t hM zA spA svA soA ikA txA viA srA frA toA hoA keA len nvi low high nto spo mos sp so ik tx vi sr fr to ho ke) (po_X5_goBack Q) 0 0 := by
  refine M_ofi (cc := cX5_goBack) (nL := 2) (by decide) rfl (Nat.le_of_ble_eq_true rfl) ?_
  intro p e s m args below meth c A hc hr
  have C_28 : ∀ (nsv : Int) (thr : Int) (z : Nat → Int) (sv : Nat → Int) (so : Nat → Int) (ik : Nat → Int) (x1 : Int) (s0 : Int), wp_X5_goBack_28 nsv thr z sv so ik x1 s0 Q → V p l e rm_X5_goBack s m args below meth c D A 2 0 0 (MQ below (QI D A (W1_X5_goBack t hM zA spA svA soA ikA txA viA srA frA toA hoA keA len nvi low high nto spo mos sp so ik tx vi sr fr to ho ke) (po_X5_goBack Q)) args s 0 0 A) 28 [(0, .ref hM), (1, .int (iI x1))] [.int (iI s0), .ref hM] [oB hM 5 [.ref zA, .ref spA, .ref svA, .int (iI nsv), .ref soA, .ref ikA, .ref txA, .int (iI len), .int (iI thr), .int (iI nvi), .ref viA, .int (iI low), .int (iI high), .ref srA, .ref frA, .ref toA, .ref hoA, .ref keA, .int (iI nto), .int (iI spo), .int (iI mos)], aI t zA 646 z, aI t spA 646 sp, aI t svA 3876 sv, aI t soA 1292 so, aZ t ikA 2 ik, aI t txA 60 tx, aI t viA 120 vi, aI t srA 120 sr, aI t frA 122 fr, aI t toA 122 to, aI t hoA 31 ho, aI t keA 31 ke] := by
    intro nsv thr z sv so ik x1 s0 hv
    unfold wp_X5_goBack_28 at hv
    refine V_callVI (As := [.int (iI s0)]) hc (wc := [oB hM 5 [.ref zA, .ref spA, .ref svA, .int (iI nsv), .ref soA, .ref ikA, .ref txA, .int (iI len), .int (iI thr), .int (iI nvi), .ref viA, .int (iI low), .int (iI high), .ref srA, .ref frA, .ref toA, .ref hoA, .ref keA, .int (iI nto), .int (iI spo), .int (iI mos)], aI t zA 646 z, aI t spA 646 sp, aI t svA 3876 sv, aI t soA 1292 so, aZ t ikA 2 ik, aI t txA 60 tx, aI t viA 120 vi, aI t srA 120 sr, aI t frA 122 fr, aI t toA 122 to, aI t hoA 31 ho, aI t keA 31 ke]) (wr := []) (pmI [0, 1, 2, 3, 4, 5, 6, 7, 8, 9, 10, 11, 12] 13 rfl (by decide +kernel) rfl) rfl rfl (met_X5_refused l D t hM zA spA svA soA ikA txA viA srA frA toA hoA keA nsv len thr nvi low high nto spo mos z sp sv so ik tx vi sr fr to ho ke s0 _ hv) rfl gX5_goBack_X5_refused rfl ⟨rfl, rfl⟩ ok_X5_refused (by decide) (Nat.le_of_ble_eq_true rfl) dX5_goBack_28 (by decide) (fun r_2 u9 hv => ?_)
    obtain ⟨thr_2, h9⟩ : ∃ z, z = u9 := ⟨_, rfl⟩
    subst h9
    try dsimp only at hv
    refine V_perm (ws1 := [oB hM 5 [.ref zA, .ref spA, .ref svA, .int (iI nsv), .ref soA, .ref ikA, .ref txA, .int (iI len), .int (iI thr_2), .int (iI nvi), .ref viA, .int (iI low), .int (iI high), .ref srA, .ref frA, .ref toA, .ref hoA, .ref keA, .int (iI nto), .int (iI spo), .int (iI mos)], aI t zA 646 z, aI t spA 646 sp, aI t svA 3876 sv, aI t soA 1292 so, aZ t ikA 2 ik, aI t txA 60 tx, aI t viA 120 vi, aI t srA 120 sr, aI t frA 122 fr, aI t toA 122 to, aI t hoA 31 ho, aI t keA 31 ke]) (pmI [0, 1, 2, 3, 4, 5, 6, 7, 8, 9, 10, 11, 12] 13 rfl (by decide +kernel) rfl) ?_
    refine V_if_eq (tgt := 36) hc dX5_goBack_31 (by decide) hv (fun hv => ?_) (fun hv => ?_)
    · refine V_aload_n hc dX5_goBack_36 0 rfl ?_
      refine V_callVV (As := []) hc (wc := [oB hM 5 [.ref zA, .ref spA, .ref svA, .int (iI nsv), .ref soA, .ref ikA, .ref txA, .int (iI len), .int (iI thr_2), .int (iI nvi), .ref viA, .int (iI low), .int (iI high), .ref srA, .ref frA, .ref toA, .ref hoA, .ref keA, .int (iI nto), .int (iI spo), .int (iI mos)], aI t zA 646 z, aI t spA 646 sp, aI t svA 3876 sv, aI t soA 1292 so, aZ t ikA 2 ik, aI t txA 60 tx, aI t viA 120 vi, aI t srA 120 sr, aI t frA 122 fr, aI t toA 122 to, aI t hoA 31 ho, aI t keA 31 ke]) (wr := []) (pmI [0, 1, 2, 3, 4, 5, 6, 7, 8, 9, 10, 11, 12] 13 rfl (by decide +kernel) rfl) rfl rfl (met_X5_saveState l D t hM zA spA svA soA ikA txA viA srA frA toA hoA keA nsv len thr_2 nvi low high nto spo mos z sp sv so ik tx vi sr fr to ho ke _ hv) rfl gX5_goBack_X5_saveState rfl ⟨rfl, rfl⟩ ok_X5_saveState (by decide) (Nat.le_of_ble_eq_true rfl) dX5_goBack_37 (by decide) (fun u9 hv => ?_)
      obtain ⟨nsv_3, sv_3⟩ := u9
      try dsimp only at hv
      refine V_perm (ws1 := [oB hM 5 [.ref zA, .ref spA, .ref svA, .int (iI nsv_3), .ref soA, .ref ikA, .ref txA, .int (iI len), .int (iI thr_2), .int (iI nvi), .ref viA, .int (iI low), .int (iI high), .ref srA, .ref frA, .ref toA, .ref hoA, .ref keA, .int (iI nto), .int (iI spo), .int (iI mos)], aI t zA 646 z, aI t spA 646 sp, aI t svA 3876 sv_3, aI t soA 1292 so, aZ t ikA 2 ik, aI t txA 60 tx, aI t viA 120 vi, aI t srA 120 sr, aI t frA 122 fr, aI t toA 122 to, aI t hoA 31 ho, aI t keA 31 ke]) (pmI [0, 1, 2, 3, 4, 5, 6, 7, 8, 9, 10, 11, 12] 13 rfl (by decide +kernel) rfl) ?_
      refine V_aload_n hc dX5_goBack_40 0 rfl ?_
      refine V_get (C := RX5) (T := TX5) (N := 21) hc i_X5_goBack_5 0 rfl rfl 4 (by decide) m_X5_goBack_19 rfl dX5_goBack_41 ?_
      refine V_sipush hc dX5_goBack_44 (by decide) ?_
      refine V_iload_n hc dX5_goBack_47 1 rfl ?_
      refine V_imul hc dX5_goBack_48 ?_
      refine V_aload_n hc dX5_goBack_49 0 rfl ?_
      refine V_get (C := RX5) (T := TX5) (N := 21) hc i_X5_goBack_5 0 rfl rfl 0 (by decide) m_X5_goBack_7 rfl dX5_goBack_50 ?_
      refine V_iconst hc dX5_goBack_53 ?_
      refine V_callSV (As := [.ref soA, .int (iI (646 * x1)), .ref zA, .int (iI 0)]) hc (wc := [aI t soA 1292 so, aI t zA 646 z]) (wr := [oB hM 5 [.ref zA, .ref spA, .ref svA, .int (iI nsv_3), .ref soA, .ref ikA, .ref txA, .int (iI len), .int (iI thr_2), .int (iI nvi), .ref viA, .int (iI low), .int (iI high), .ref srA, .ref frA, .ref toA, .ref hoA, .ref keA, .int (iI nto), .int (iI spo), .int (iI mos)], aI t spA 646 sp, aI t svA 3876 sv_3, aZ t ikA 2 ik, aI t txA 60 tx, aI t viA 120 vi, aI t srA 120 sr, aI t frA 122 fr, aI t toA 122 to, aI t hoA 31 ho, aI t keA 31 ke]) (pmI [4, 1, 0, 2, 3, 5, 6, 7, 8, 9, 10, 11, 12] 13 rfl (by decide +kernel) rfl) (met_X5_copyState l D t soA zA 1292 646 (by decide) (by decide) so z (646 * x1) 0 _ hv) rfl gX5_goBack_X5_copyState rfl ⟨rfl, rfl⟩ ok_X5_copyState (by decide) (Nat.le_of_ble_eq_true rfl) dX5_goBack_54 (by decide) (fun u9 hv => ?_)
      obtain ⟨z_4, h9⟩ : ∃ z, z = u9 := ⟨_, rfl⟩
      subst h9
      try dsimp only at hv
      refine V_perm (ws1 := [oB hM 5 [.ref zA, .ref spA, .ref svA, .int (iI nsv_3), .ref soA, .ref ikA, .ref txA, .int (iI len), .int (iI thr_2), .int (iI nvi), .ref viA, .int (iI low), .int (iI high), .ref srA, .ref frA, .ref toA, .ref hoA, .ref keA, .int (iI nto), .int (iI spo), .int (iI mos)], aI t zA 646 z_4, aI t spA 646 sp, aI t svA 3876 sv_3, aI t soA 1292 so, aZ t ikA 2 ik, aI t txA 60 tx, aI t viA 120 vi, aI t srA 120 sr, aI t frA 122 fr, aI t toA 122 to, aI t hoA 31 ho, aI t keA 31 ke]) (pmI [2, 1, 3, 4, 0, 5, 6, 7, 8, 9, 10, 11, 12] 13 rfl (by decide +kernel) rfl) ?_
      refine V_aload_n hc dX5_goBack_57 0 rfl ?_
      refine V_iconst hc dX5_goBack_58 ?_
      refine V_callVI (As := [.int (iI 0)]) hc (wc := [oB hM 5 [.ref zA, .ref spA, .ref svA, .int (iI nsv_3), .ref soA, .ref ikA, .ref txA, .int (iI len), .int (iI thr_2), .int (iI nvi), .ref viA, .int (iI low), .int (iI high), .ref srA, .ref frA, .ref toA, .ref hoA, .ref keA, .int (iI nto), .int (iI spo), .int (iI mos)], aI t zA 646 z_4, aI t spA 646 sp, aI t svA 3876 sv_3, aI t soA 1292 so, aZ t ikA 2 ik, aI t txA 60 tx, aI t viA 120 vi, aI t srA 120 sr, aI t frA 122 fr, aI t toA 122 to, aI t hoA 31 ho, aI t keA 31 ke]) (wr := []) (pmI [0, 1, 2, 3, 4, 5, 6, 7, 8, 9, 10, 11, 12] 13 rfl (by decide +kernel) rfl) rfl rfl (met_X5_presentIn l D t hM zA spA svA soA ikA txA viA srA frA toA hoA keA nsv_3 len thr_2 nvi low high nto spo mos z_4 sp sv_3 so ik tx vi sr fr to ho ke 0 _ hv) rfl gX5_goBack_X5_presentIn rfl ⟨rfl, rfl⟩ ok_X5_presentIn (by decide) (Nat.le_of_ble_eq_true rfl) dX5_goBack_59 (by decide) (fun r_5 _ hv => ?_)
      try dsimp only at hv
      refine V_perm (ws1 := [oB hM 5 [.ref zA, .ref spA, .ref svA, .int (iI nsv_3), .ref soA, .ref ikA, .ref txA, .int (iI len), .int (iI thr_2), .int (iI nvi), .ref viA, .int (iI low), .int (iI high), .ref srA, .ref frA, .ref toA, .ref hoA, .ref keA, .int (iI nto), .int (iI spo), .int (iI mos)], aI t zA 646 z_4, aI t spA 646 sp, aI t svA 3876 sv_3, aI t soA 1292 so, aZ t ikA 2 ik, aI t txA 60 tx, aI t viA 120 vi, aI t srA 120 sr, aI t frA 122 fr, aI t toA 122 to, aI t hoA 31 ho, aI t keA 31 ke]) (pmI [0, 1, 2, 3, 4, 5, 6, 7, 8, 9, 10, 11, 12] 13 rfl (by decide +kernel) rfl) ?_
      exact V_iret hc hr (nsv_3, thr_2, z_4, sv_3) hv rfl dX5_goBack_62
    · refine V_iconst hc dX5_goBack_34 ?_
      exact V_iret hc hr (nsv, thr_2, z, sv) hv rfl dX5_goBack_35
  refine V_lv [0, 1] [(0, .ref hM), (1, .int (iI x1))] rfl ?_
  unfold wp_X5_goBack at hv
  refine V_aload_n hc dX5_goBack_0 0 rfl ?_
  refine V_iload_n hc dX5_goBack_1 1 rfl ?_
  refine V_iconst hc dX5_goBack_2 ?_
  refine V_iconst hc dX5_goBack_3 ?_
  refine V_callSI (As := [.int (iI x1), .int (iI 0), .int (iI 1)]) hc (wc := []) (wr := [oB hM 5 [.ref zA, .ref spA, .ref svA, .int (iI nsv), .ref soA, .ref ikA, .ref txA, .int (iI len), .int (iI thr), .int (iI nvi), .ref viA, .int (iI low), .int (iI high), .ref srA, .ref frA, .ref toA, .ref hoA, .ref keA, .int (iI nto), .int (iI spo), .int (iI mos)], aI t zA 646 z, aI t spA 646 sp, aI t svA 3876 sv, aI t soA 1292 so, aZ t ikA 2 ik, aI t txA 60 tx, aI t viA 120 vi, aI t srA 120 sr, aI t frA 122 fr, aI t toA 122 to, aI t hoA 31 ho, aI t keA 31 ke]) (pmI [0, 1, 2, 3, 4, 5, 6, 7, 8, 9, 10, 11, 12] 13 rfl (by decide +kernel) rfl) (met_X5_in l D t x1 0 1 _ hv) rfl gX5_goBack_X5_in rfl ⟨rfl, rfl⟩ ok_X5_in (by decide) (Nat.le_of_ble_eq_true rfl) dX5_goBack_4 (by decide) (fun r_1 _ hv => ?_)
  try dsimp only at hv
  refine V_perm (ws1 := [oB hM 5 [.ref zA, .ref spA, .ref svA, .int (iI nsv), .ref soA, .ref ikA, .ref txA, .int (iI len), .int (iI thr), .int (iI nvi), .ref viA, .int (iI low), .int (iI high), .ref srA, .ref frA, .ref toA, .ref hoA, .ref keA, .int (iI nto), .int (iI spo), .int (iI mos)], aI t zA 646 z, aI t spA 646 sp, aI t svA 3876 sv, aI t soA 1292 so, aZ t ikA 2 ik, aI t txA 60 tx, aI t viA 120 vi, aI t srA 120 sr, aI t frA 122 fr, aI t toA 122 to, aI t hoA 31 ho, aI t keA 31 ke]) (pmI [0, 1, 2, 3, 4, 5, 6, 7, 8, 9, 10, 11, 12] 13 rfl (by decide +kernel) rfl) ?_
  refine V_if_ne (tgt := 14) hc dX5_goBack_7 (by decide) hv (fun hv => ?_) (fun hv => ?_)
  · refine V_aload_n hc dX5_goBack_14 0 rfl ?_
    refine V_get (C := RX5) (T := TX5) (N := 21) hc i_X5_goBack_5 0 rfl rfl 5 (by decide) m_X5_goBack_22 rfl dX5_goBack_15 ?_
    refine V_iload_n hc dX5_goBack_18 1 rfl ?_
    refine V_zald hc 5 rfl (by decide) hv dX5_goBack_19 (fun hv => ?_)
    refine V_if_eq (tgt := 27) hc dX5_goBack_20 (by decide) hv (fun hv => ?_) (fun hv => ?_)
    · refine V_iconst hc dX5_goBack_27 ?_
      exact C_28 nsv thr z sv so ik x1 2 hv
    · refine V_iconst hc dX5_goBack_23 ?_
      refine V_goto (tgt := 28) hc dX5_goBack_24 (by decide) ?_
      exact C_28 nsv thr z sv so ik x1 0 hv
  · refine V_iconst hc dX5_goBack_10 ?_
    refine V_goto (tgt := 28) hc dX5_goBack_11 (by decide) ?_
    exact C_28 nsv thr z sv so ik x1 1 hv
abbrev W1_X5_contains (t : Nat → ClassId) (hM : Nat) (zA : Nat) (spA : Nat) (svA : Nat) (soA : Nat) (ikA : Nat) (txA : Nat) (viA : Nat) (srA : Nat) (frA : Nat) (toA : Nat) (hoA : Nat) (keA : Nat) (nsv : Int) (len : Int) (nvi : Int) (low : Int) (high : Int) (nto : Int) (spo : Int) (mos : Int) (z : Nat → Int) (sp : Nat → Int) (sv : Nat → Int) (so : Nat → Int) (ik : Nat → Int) (tx : Nat → Int) (vi : Nat → Int) (sr : Nat → Int) (fr : Nat → Int) (to : Nat → Int) (ho : Nat → Int) (ke : Nat → Int) (u : (Int)) : va_W := [oB hM 5 [.ref zA, .ref spA, .ref svA, .int (iI nsv), .ref soA, .ref ikA, .ref txA, .int (iI len), .int (iI u), .int (iI nvi), .ref viA, .int (iI low), .int (iI high), .ref srA, .ref frA, .ref toA, .ref hoA, .ref keA, .int (iI nto), .int (iI spo), .int (iI mos)], aI t zA 646 z, aI t spA 646 sp, aI t svA 3876 sv, aI t soA 1292 so, aZ t ikA 2 ik, aI t txA 60 tx, aI t viA 120 vi, aI t srA 120 sr, aI t frA 122 fr, aI t toA 122 to, aI t hoA 31 ho, aI t keA 31 ke]
abbrev po_X5_contains (Q : Int → (Int) → Prop) (r : Int) (u : (Int)) : Prop := Q r u
abbrev rm_X5_contains : Room := { frames := 2, cells := 0, slots := 0, locals := 47 }
def wp_X5_contains_13 (thr : Int) (z : Nat → Int) (x1 : Int) (s0 : Int) (Q : Int → (Int) → Prop) : Prop := wp_X5_refused thr s0 (fun r_2 thr_2 => inR r_2 ∧ (r_2 ≠ 0 → Q 0 thr_2) ∧ (¬ (r_2 ≠ 0) → wp_X5_isPresent z 0 x1 (fun r_3 => inR r_3 ∧ (r_3 = 0 → Q 0 thr_2) ∧ (¬ (r_3 = 0) → Q 1 thr_2))))
def wp_X5_contains (thr : Int) (z : Nat → Int) (x1 : Int) (Q : Int → (Int) → Prop) : Prop := wp_X5_isKey x1 (fun r_1 => inR r_1 ∧ (r_1 = 0 → wp_X5_contains_13 thr z x1 1 Q) ∧ (¬ (r_1 = 0) → wp_X5_contains_13 thr z x1 0 Q))
theorem ok_X5_contains : yX5_contains.cls = RX5 ∧ yX5_contains.cls ≠ "java/lang/invoke/MethodHandle" ∧ yX5_contains.cls ≠ "java/lang/invoke/VarHandle" ∧ (parseMethodDescriptor yX5_contains.desc).map (fun d => d.parameters.length) = some 1 := by decide +kernel
set_option maxHeartbeats 4000000 in
set_option maxRecDepth 100000 in
theorem met_X5_contains (l : Launch) (D : va_G) (t : Nat → ClassId) (hM : Nat) (zA : Nat) (spA : Nat) (svA : Nat) (soA : Nat) (ikA : Nat) (txA : Nat) (viA : Nat) (srA : Nat) (frA : Nat) (toA : Nat) (hoA : Nat) (keA : Nat) (nsv : Int) (len : Int) (thr : Int) (nvi : Int) (low : Int) (high : Int) (nto : Int) (spo : Int) (mos : Int) (z : Nat → Int) (sp : Nat → Int) (sv : Nat → Int) (so : Nat → Int) (ik : Nat → Int) (tx : Nat → Int) (vi : Nat → Int) (sr : Nat → Int) (fr : Nat → Int) (to : Nat → Int) (ho : Nat → Int) (ke : Nat → Int) (x1 : Int) (Q : Int → (Int) → Prop) (hv : wp_X5_contains thr z x1 Q) : MI l D t yX5_contains wsX5_contains rm_X5_contains [.ref hM, .int (iI x1)] [oB hM 5 [.ref zA, .ref spA, .ref svA, .int (iI nsv), .ref soA, .ref ikA, .ref txA, .int (iI len), .int (iI thr), .int (iI nvi), .ref viA, .int (iI low), .int (iI high), .ref srA, .ref frA, .ref toA, .ref hoA, .ref keA, .int (iI nto), .int (iI spo), .int (iI mos)], aI t zA 646 z, aI t spA 646 sp, aI t svA 3876 sv, aI t soA 1292 so, aZ t ikA 2 ik, aI t txA 60 tx, aI t viA 120 vi, aI t srA 120 sr, aI t frA 122 fr, aI t toA 122 to, aI t hoA 31 ho, aI t keA 31 ke] (W1_X5_contains t hM zA spA svA soA ikA txA viA srA frA toA hoA keA nsv len nvi low high nto spo mos z sp sv so ik tx vi sr fr to ho ke) (po_X5_contains Q) 0 0 := by
  refine M_ofz (cc := cX5_contains) (nL := 2) (by decide) rfl (Nat.le_of_ble_eq_true rfl) ?_
  intro p e s m args below meth c A hc hr
  have C_13 : ∀ (thr : Int) (z : Nat → Int) (x1 : Int) (s0 : Int), wp_X5_contains_13 thr z x1 s0 Q → V p l e rm_X5_contains s m args below meth c D A 2 0 0 (MQ below (QI D A (W1_X5_contains t hM zA spA svA soA ikA txA viA srA frA toA hoA keA nsv len nvi low high nto spo mos z sp sv so ik tx vi sr fr to ho ke) (po_X5_contains Q)) args s 0 0 A) 13 [(0, .ref hM), (1, .int (iI x1))] [.int (iI s0), .ref hM] [oB hM 5 [.ref zA, .ref spA, .ref svA, .int (iI nsv), .ref soA, .ref ikA, .ref txA, .int (iI len), .int (iI thr), .int (iI nvi), .ref viA, .int (iI low), .int (iI high), .ref srA, .ref frA, .ref toA, .ref hoA, .ref keA, .int (iI nto), .int (iI spo), .int (iI mos)], aI t zA 646 z, aI t spA 646 sp, aI t svA 3876 sv, aI t soA 1292 so, aZ t ikA 2 ik, aI t txA 60 tx, aI t viA 120 vi, aI t srA 120 sr, aI t frA 122 fr, aI t toA 122 to, aI t hoA 31 ho, aI t keA 31 ke] := by
    intro thr z x1 s0 hv
    unfold wp_X5_contains_13 at hv
    refine V_callVI (As := [.int (iI s0)]) hc (wc := [oB hM 5 [.ref zA, .ref spA, .ref svA, .int (iI nsv), .ref soA, .ref ikA, .ref txA, .int (iI len), .int (iI thr), .int (iI nvi), .ref viA, .int (iI low), .int (iI high), .ref srA, .ref frA, .ref toA, .ref hoA, .ref keA, .int (iI nto), .int (iI spo), .int (iI mos)], aI t zA 646 z, aI t spA 646 sp, aI t svA 3876 sv, aI t soA 1292 so, aZ t ikA 2 ik, aI t txA 60 tx, aI t viA 120 vi, aI t srA 120 sr, aI t frA 122 fr, aI t toA 122 to, aI t hoA 31 ho, aI t keA 31 ke]) (wr := []) (pmI [0, 1, 2, 3, 4, 5, 6, 7, 8, 9, 10, 11, 12] 13 rfl (by decide +kernel) rfl) rfl rfl (met_X5_refused l D t hM zA spA svA soA ikA txA viA srA frA toA hoA keA nsv len thr nvi low high nto spo mos z sp sv so ik tx vi sr fr to ho ke s0 _ hv) rfl gX5_contains_X5_refused rfl ⟨rfl, rfl⟩ ok_X5_refused (by decide) (Nat.le_of_ble_eq_true rfl) dX5_contains_13 (by decide) (fun r_2 u9 hv => ?_)
    obtain ⟨thr_2, h9⟩ : ∃ z, z = u9 := ⟨_, rfl⟩
    subst h9
    try dsimp only at hv
    refine V_perm (ws1 := [oB hM 5 [.ref zA, .ref spA, .ref svA, .int (iI nsv), .ref soA, .ref ikA, .ref txA, .int (iI len), .int (iI thr_2), .int (iI nvi), .ref viA, .int (iI low), .int (iI high), .ref srA, .ref frA, .ref toA, .ref hoA, .ref keA, .int (iI nto), .int (iI spo), .int (iI mos)], aI t zA 646 z, aI t spA 646 sp, aI t svA 3876 sv, aI t soA 1292 so, aZ t ikA 2 ik, aI t txA 60 tx, aI t viA 120 vi, aI t srA 120 sr, aI t frA 122 fr, aI t toA 122 to, aI t hoA 31 ho, aI t keA 31 ke]) (pmI [0, 1, 2, 3, 4, 5, 6, 7, 8, 9, 10, 11, 12] 13 rfl (by decide +kernel) rfl) ?_
    refine V_if_ne (tgt := 32) hc dX5_contains_16 (by decide) hv (fun hv => ?_) (fun hv => ?_)
    · refine V_iconst hc dX5_contains_32 ?_
      exact V_zret hc hr thr_2 ⟨by decide, hv⟩ rfl dX5_contains_33
    · refine V_aload_n hc dX5_contains_19 0 rfl ?_
      refine V_iconst hc dX5_contains_20 ?_
      refine V_iload_n hc dX5_contains_21 1 rfl ?_
      refine V_callVI (As := [.int (iI 0), .int (iI x1)]) hc (wc := [oB hM 5 [.ref zA, .ref spA, .ref svA, .int (iI nsv), .ref soA, .ref ikA, .ref txA, .int (iI len), .int (iI thr_2), .int (iI nvi), .ref viA, .int (iI low), .int (iI high), .ref srA, .ref frA, .ref toA, .ref hoA, .ref keA, .int (iI nto), .int (iI spo), .int (iI mos)], aI t zA 646 z, aI t spA 646 sp, aI t svA 3876 sv, aI t soA 1292 so, aZ t ikA 2 ik, aI t txA 60 tx, aI t viA 120 vi, aI t srA 120 sr, aI t frA 122 fr, aI t toA 122 to, aI t hoA 31 ho, aI t keA 31 ke]) (wr := []) (pmI [0, 1, 2, 3, 4, 5, 6, 7, 8, 9, 10, 11, 12] 13 rfl (by decide +kernel) rfl) rfl rfl (met_X5_isPresent l D t hM zA spA svA soA ikA txA viA srA frA toA hoA keA nsv len thr_2 nvi low high nto spo mos z sp sv so ik tx vi sr fr to ho ke 0 x1 _ hv) rfl gX5_contains_X5_isPresent rfl ⟨rfl, rfl⟩ ok_X5_isPresent (by decide) (Nat.le_of_ble_eq_true rfl) dX5_contains_22 (by decide) (fun r_3 _ hv => ?_)
      try dsimp only at hv
      refine V_perm (ws1 := [oB hM 5 [.ref zA, .ref spA, .ref svA, .int (iI nsv), .ref soA, .ref ikA, .ref txA, .int (iI len), .int (iI thr_2), .int (iI nvi), .ref viA, .int (iI low), .int (iI high), .ref srA, .ref frA, .ref toA, .ref hoA, .ref keA, .int (iI nto), .int (iI spo), .int (iI mos)], aI t zA 646 z, aI t spA 646 sp, aI t svA 3876 sv, aI t soA 1292 so, aZ t ikA 2 ik, aI t txA 60 tx, aI t viA 120 vi, aI t srA 120 sr, aI t frA 122 fr, aI t toA 122 to, aI t hoA 31 ho, aI t keA 31 ke]) (pmI [0, 1, 2, 3, 4, 5, 6, 7, 8, 9, 10, 11, 12] 13 rfl (by decide +kernel) rfl) ?_
      refine V_if_eq (tgt := 32) hc dX5_contains_25 (by decide) hv (fun hv => ?_) (fun hv => ?_)
      · refine V_iconst hc dX5_contains_32 ?_
        exact V_zret hc hr thr_2 ⟨by decide, hv⟩ rfl dX5_contains_33
      · refine V_iconst hc dX5_contains_28 ?_
        refine V_goto (tgt := 33) hc dX5_contains_29 (by decide) ?_
        exact V_zret hc hr thr_2 ⟨by decide, hv⟩ rfl dX5_contains_33
  refine V_lv [0, 1] [(0, .ref hM), (1, .int (iI x1))] rfl ?_
  unfold wp_X5_contains at hv
  refine V_aload_n hc dX5_contains_0 0 rfl ?_
  refine V_iload_n hc dX5_contains_1 1 rfl ?_
  refine V_callSI (As := [.int (iI x1)]) hc (wc := []) (wr := [oB hM 5 [.ref zA, .ref spA, .ref svA, .int (iI nsv), .ref soA, .ref ikA, .ref txA, .int (iI len), .int (iI thr), .int (iI nvi), .ref viA, .int (iI low), .int (iI high), .ref srA, .ref frA, .ref toA, .ref hoA, .ref keA, .int (iI nto), .int (iI spo), .int (iI mos)], aI t zA 646 z, aI t spA 646 sp, aI t svA 3876 sv, aI t soA 1292 so, aZ t ikA 2 ik, aI t txA 60 tx, aI t viA 120 vi, aI t srA 120 sr, aI t frA 122 fr, aI t toA 122 to, aI t hoA 31 ho, aI t keA 31 ke]) (pmI [0, 1, 2, 3, 4, 5, 6, 7, 8, 9, 10, 11, 12] 13 rfl (by decide +kernel) rfl) (met_X5_isKey l D t x1 _ hv) rfl gX5_contains_X5_isKey rfl ⟨rfl, rfl⟩ ok_X5_isKey (by decide) (Nat.le_of_ble_eq_true rfl) dX5_contains_2 (by decide) (fun r_1 _ hv => ?_)
  try dsimp only at hv
  refine V_perm (ws1 := [oB hM 5 [.ref zA, .ref spA, .ref svA, .int (iI nsv), .ref soA, .ref ikA, .ref txA, .int (iI len), .int (iI thr), .int (iI nvi), .ref viA, .int (iI low), .int (iI high), .ref srA, .ref frA, .ref toA, .ref hoA, .ref keA, .int (iI nto), .int (iI spo), .int (iI mos)], aI t zA 646 z, aI t spA 646 sp, aI t svA 3876 sv, aI t soA 1292 so, aZ t ikA 2 ik, aI t txA 60 tx, aI t viA 120 vi, aI t srA 120 sr, aI t frA 122 fr, aI t toA 122 to, aI t hoA 31 ho, aI t keA 31 ke]) (pmI [0, 1, 2, 3, 4, 5, 6, 7, 8, 9, 10, 11, 12] 13 rfl (by decide +kernel) rfl) ?_
  refine V_if_eq (tgt := 12) hc dX5_contains_5 (by decide) hv (fun hv => ?_) (fun hv => ?_)
  · refine V_iconst hc dX5_contains_12 ?_
    exact C_13 thr z x1 1 hv
  · refine V_iconst hc dX5_contains_8 ?_
    refine V_goto (tgt := 13) hc dX5_contains_9 (by decide) ?_
    exact C_13 thr z x1 0 hv
abbrev W1_X5_near (t : Nat → ClassId) (hM : Nat) (zA : Nat) (spA : Nat) (svA : Nat) (soA : Nat) (ikA : Nat) (txA : Nat) (viA : Nat) (srA : Nat) (frA : Nat) (toA : Nat) (hoA : Nat) (keA : Nat) (nsv : Int) (len : Int) (nvi : Int) (low : Int) (high : Int) (nto : Int) (spo : Int) (mos : Int) (z : Nat → Int) (sp : Nat → Int) (sv : Nat → Int) (so : Nat → Int) (ik : Nat → Int) (tx : Nat → Int) (vi : Nat → Int) (sr : Nat → Int) (fr : Nat → Int) (to : Nat → Int) (ho : Nat → Int) (ke : Nat → Int) (u : (Int)) : va_W := [oB hM 5 [.ref zA, .ref spA, .ref svA, .int (iI nsv), .ref soA, .ref ikA, .ref txA, .int (iI len), .int (iI u), .int (iI nvi), .ref viA, .int (iI low), .int (iI high), .ref srA, .ref frA, .ref toA, .ref hoA, .ref keA, .int (iI nto), .int (iI spo), .int (iI mos)], aI t zA 646 z, aI t spA 646 sp, aI t svA 3876 sv, aI t soA 1292 so, aZ t ikA 2 ik, aI t txA 60 tx, aI t viA 120 vi, aI t srA 120 sr, aI t frA 122 fr, aI t toA 122 to, aI t hoA 31 ho, aI t keA 31 ke]
abbrev po_X5_near (Q : Int → (Int) → Prop) (r : Int) (u : (Int)) : Prop := Q r u
abbrev rm_X5_near : Room := { frames := 2, cells := 0, slots := 0, locals := 47 }
def wp_X5_near_56 (thr : Int) (z : Nat → Int) (x3 : Int) (Q : Int → (Int) → Prop) (K_56 : Int → Prop) (x4 : Int) : Prop := wp_X5_isKey x4 (fun r_4 => inR r_4 ∧ (r_4 = 0 → wp_X5_isKey x4 (fun r_5 => inR r_5 ∧ (r_5 = 0 → Q (-1) thr) ∧ (¬ (r_5 = 0) → Q x4 thr))) ∧ (¬ (r_4 = 0) → wp_X5_isPresent z 0 x4 (fun r_6 => inR r_6 ∧ (r_6 ≠ 0 → wp_X5_isKey x4 (fun r_7 => inR r_7 ∧ (r_7 = 0 → Q (-1) thr) ∧ (¬ (r_7 = 0) → Q x4 thr))) ∧ (¬ (r_6 ≠ 0) → K_56 (x4 + x3)))))
def wp_X5_near_41 (thr : Int) (z : Nat → Int) (x1 : Int) (x2 : Int) (s0 : Int) (Q : Int → (Int) → Prop) : Prop := inR x2 ∧ (x2 ≥ 2 → (∃ n, lq1 (wp_X5_near_56 thr z s0 Q) n (x1 + s0))) ∧ (¬ (x2 ≥ 2) → (∃ n, lq1 (wp_X5_near_56 thr z s0 Q) n x1))
def wp_X5_near_22 (thr : Int) (z : Nat → Int) (x1 : Int) (x2 : Int) (s0 : Int) (Q : Int → (Int) → Prop) : Prop := wp_X5_refused thr s0 (fun r_3 thr_3 => inR r_3 ∧ (r_3 = 0 → (0 ≤ x2 ∧ x2 ≤ 2147483647) ∧ inR (x2 % 2) ∧ (x2 % 2 ≠ 0 → wp_X5_near_41 thr_3 z x1 x2 1 Q) ∧ (¬ (x2 % 2 ≠ 0) → wp_X5_near_41 thr_3 z x1 x2 (-1) Q)) ∧ (¬ (r_3 = 0) → Q 0 thr_3))
def wp_X5_near_21 (thr : Int) (z : Nat → Int) (x1 : Int) (x2 : Int) (Q : Int → (Int) → Prop) : Prop := wp_X5_near_22 thr z x1 x2 1 Q
def wp_X5_near (thr : Int) (z : Nat → Int) (x1 : Int) (x2 : Int) (Q : Int → (Int) → Prop) : Prop := wp_X5_isKey x1 (fun r_1 => inR r_1 ∧ (r_1 = 0 → wp_X5_near_21 thr z x1 x2 Q) ∧ (¬ (r_1 = 0) → wp_X5_in x2 0 3 (fun r_2 => inR r_2 ∧ (r_2 = 0 → wp_X5_near_21 thr z x1 x2 Q) ∧ (¬ (r_2 = 0) → wp_X5_near_22 thr z x1 x2 0 Q))))
theorem ok_X5_near : yX5_near.cls = RX5 ∧ yX5_near.cls ≠ "java/lang/invoke/MethodHandle" ∧ yX5_near.cls ≠ "java/lang/invoke/VarHandle" ∧ (parseMethodDescriptor yX5_near.desc).map (fun d => d.parameters.length) = some 2 := by decide +kernel
set_option maxHeartbeats 4000000 in
set_option maxRecDepth 100000 in
theorem met_X5_near (l : Launch) (D : va_G) (t : Nat → ClassId) (hM : Nat) (zA : Nat) (spA : Nat) (svA : Nat) (soA : Nat) (ikA : Nat) (txA : Nat) (viA : Nat) (srA : Nat) (frA : Nat) (toA : Nat) (hoA : Nat) (keA : Nat) (nsv : Int) (len : Int) (thr : Int) (nvi : Int) (low : Int) (high : Int) (nto : Int) (spo : Int) (mos : Int) (z : Nat → Int) (sp : Nat → Int) (sv : Nat → Int) (so : Nat → Int) (ik : Nat → Int) (tx : Nat → Int) (vi : Nat → Int) (sr : Nat → Int) (fr : Nat → Int) (to : Nat → Int) (ho : Nat → Int) (ke : Nat → Int) (x1 : Int) (x2 : Int) (Q : Int → (Int) → Prop) (hv : wp_X5_near thr z x1 x2 Q) : MI l D t yX5_near wsX5_near rm_X5_near [.ref hM, .int (iI x1), .int (iI x2)] [oB hM 5 [.ref zA, .ref spA, .ref svA, .int (iI nsv), .ref soA, .ref ikA, .ref txA, .int (iI len), .int (iI thr), .int (iI nvi), .ref viA, .int (iI low), .int (iI high), .ref srA, .ref frA, .ref toA, .ref hoA, .ref keA, .int (iI nto), .int (iI spo), .int (iI mos)], aI t zA 646 z, aI t spA 646 sp, aI t svA 3876 sv, aI t soA 1292 so, aZ t ikA 2 ik, aI t txA 60 tx, aI t viA 120 vi, aI t srA 120 sr, aI t frA 122 fr, aI t toA 122 to, aI t hoA 31 ho, aI t keA 31 ke] (W1_X5_near t hM zA spA svA soA ikA txA viA srA frA toA hoA keA nsv len nvi low high nto spo mos z sp sv so ik tx vi sr fr to ho ke) (po_X5_near Q) 0 0 := by
  refine M_ofi (cc := cX5_near) (nL := 5) (by decide) rfl (Nat.le_of_ble_eq_true rfl) ?_
  intro p e s m args below meth c A hc hr
  have L_56 : ∀ (thr : Int) (z : Nat → Int) (x3 : Int) (n9 : Nat) (x4 : Int), lq1 (wp_X5_near_56 thr z x3 Q) n9 x4 → V p l e rm_X5_near s m args below meth c D A 5 0 0 (MQ below (QI D A (W1_X5_near t hM zA spA svA soA ikA txA viA srA frA toA hoA keA nsv len nvi low high nto spo mos z sp sv so ik tx vi sr fr to ho ke) (po_X5_near Q)) args s 0 0 A) 56 [(0, .ref hM), (3, .int (iI x3)), (4, .int (iI x4))] [] [oB hM 5 [.ref zA, .ref spA, .ref svA, .int (iI nsv), .ref soA, .ref ikA, .ref txA, .int (iI len), .int (iI thr), .int (iI nvi), .ref viA, .int (iI low), .int (iI high), .ref srA, .ref frA, .ref toA, .ref hoA, .ref keA, .int (iI nto), .int (iI spo), .int (iI mos)], aI t zA 646 z, aI t spA 646 sp, aI t svA 3876 sv, aI t soA 1292 so, aZ t ikA 2 ik, aI t txA 60 tx, aI t viA 120 vi, aI t srA 120 sr, aI t frA 122 fr, aI t toA 122 to, aI t hoA 31 ho, aI t keA 31 ke] := by
    intro thr z x3 n9
    induction n9 with
    | zero =>
      intro x4 hv
      exact hv.elim
    | succ n9 ih =>
      intro x4 hv
      have hv : wp_X5_near_56 thr z x3 Q (lq1 (wp_X5_near_56 thr z x3 Q) n9) x4 := hv
      generalize lq1 (wp_X5_near_56 thr z x3 Q) n9 = K_56 at hv ih
      have hK_56 := ih
      unfold wp_X5_near_56 at hv
      refine V_iload hc dX5_near_56 2 rfl ?_
      refine V_callSI (As := [.int (iI x4)]) hc (wc := []) (wr := [oB hM 5 [.ref zA, .ref spA, .ref svA, .int (iI nsv), .ref soA, .ref ikA, .ref txA, .int (iI len), .int (iI thr), .int (iI nvi), .ref viA, .int (iI low), .int (iI high), .ref srA, .ref frA, .ref toA, .ref hoA, .ref keA, .int (iI nto), .int (iI spo), .int (iI mos)], aI t zA 646 z, aI t spA 646 sp, aI t svA 3876 sv, aI t soA 1292 so, aZ t ikA 2 ik, aI t txA 60 tx, aI t viA 120 vi, aI t srA 120 sr, aI t frA 122 fr, aI t toA 122 to, aI t hoA 31 ho, aI t keA 31 ke]) (pmI [0, 1, 2, 3, 4, 5, 6, 7, 8, 9, 10, 11, 12] 13 rfl (by decide +kernel) rfl) (met_X5_isKey l D t x4 _ hv) rfl gX5_near_X5_isKey rfl ⟨rfl, rfl⟩ ok_X5_isKey (by decide) (Nat.le_of_ble_eq_true rfl) dX5_near_58 (by decide) (fun r_4 _ hv => ?_)
      try dsimp only at hv
      refine V_perm (ws1 := [oB hM 5 [.ref zA, .ref spA, .ref svA, .int (iI nsv), .ref soA, .ref ikA, .ref txA, .int (iI len), .int (iI thr), .int (iI nvi), .ref viA, .int (iI low), .int (iI high), .ref srA, .ref frA, .ref toA, .ref hoA, .ref keA, .int (iI nto), .int (iI spo), .int (iI mos)], aI t zA 646 z, aI t spA 646 sp, aI t svA 3876 sv, aI t soA 1292 so, aZ t ikA 2 ik, aI t txA 60 tx, aI t viA 120 vi, aI t srA 120 sr, aI t frA 122 fr, aI t toA 122 to, aI t hoA 31 ho, aI t keA 31 ke]) (pmI [0, 1, 2, 3, 4, 5, 6, 7, 8, 9, 10, 11, 12] 13 rfl (by decide +kernel) rfl) ?_
      refine V_if_eq (tgt := 83) hc dX5_near_61 (by decide) hv (fun hv => ?_) (fun hv => ?_)
      · refine V_iload hc dX5_near_83 2 rfl ?_
        refine V_callSI (As := [.int (iI x4)]) hc (wc := []) (wr := [oB hM 5 [.ref zA, .ref spA, .ref svA, .int (iI nsv), .ref soA, .ref ikA, .ref txA, .int (iI len), .int (iI thr), .int (iI nvi), .ref viA, .int (iI low), .int (iI high), .ref srA, .ref frA, .ref toA, .ref hoA, .ref keA, .int (iI nto), .int (iI spo), .int (iI mos)], aI t zA 646 z, aI t spA 646 sp, aI t svA 3876 sv, aI t soA 1292 so, aZ t ikA 2 ik, aI t txA 60 tx, aI t viA 120 vi, aI t srA 120 sr, aI t frA 122 fr, aI t toA 122 to, aI t hoA 31 ho, aI t keA 31 ke]) (pmI [0, 1, 2, 3, 4, 5, 6, 7, 8, 9, 10, 11, 12] 13 rfl (by decide +kernel) rfl) (met_X5_isKey l D t x4 _ hv) rfl gX5_near_X5_isKey rfl ⟨rfl, rfl⟩ ok_X5_isKey (by decide) (Nat.le_of_ble_eq_true rfl) dX5_near_85 (by decide) (fun r_5 _ hv => ?_)
        try dsimp only at hv
        refine V_perm (ws1 := [oB hM 5 [.ref zA, .ref spA, .ref svA, .int (iI nsv), .ref soA, .ref ikA, .ref txA, .int (iI len), .int (iI thr), .int (iI nvi), .ref viA, .int (iI low), .int (iI high), .ref srA, .ref frA, .ref toA, .ref hoA, .ref keA, .int (iI nto), .int (iI spo), .int (iI mos)], aI t zA 646 z, aI t spA 646 sp, aI t svA 3876 sv, aI t soA 1292 so, aZ t ikA 2 ik, aI t txA 60 tx, aI t viA 120 vi, aI t srA 120 sr, aI t frA 122 fr, aI t toA 122 to, aI t hoA 31 ho, aI t keA 31 ke]) (pmI [0, 1, 2, 3, 4, 5, 6, 7, 8, 9, 10, 11, 12] 13 rfl (by decide +kernel) rfl) ?_
        refine V_if_eq (tgt := 96) hc dX5_near_88 (by decide) hv (fun hv => ?_) (fun hv => ?_)
        · refine V_iconst hc dX5_near_96 ?_
          exact V_iret hc hr thr hv rfl dX5_near_97
        · refine V_iload hc dX5_near_91 2 rfl ?_
          refine V_goto (tgt := 97) hc dX5_near_93 (by decide) ?_
          exact V_iret hc hr thr hv rfl dX5_near_97
      · refine V_aload_n hc dX5_near_64 0 rfl ?_
        refine V_iconst hc dX5_near_65 ?_
        refine V_iload hc dX5_near_66 2 rfl ?_
        refine V_callVI (As := [.int (iI 0), .int (iI x4)]) hc (wc := [oB hM 5 [.ref zA, .ref spA, .ref svA, .int (iI nsv), .ref soA, .ref ikA, .ref txA, .int (iI len), .int (iI thr), .int (iI nvi), .ref viA, .int (iI low), .int (iI high), .ref srA, .ref frA, .ref toA, .ref hoA, .ref keA, .int (iI nto), .int (iI spo), .int (iI mos)], aI t zA 646 z, aI t spA 646 sp, aI t svA 3876 sv, aI t soA 1292 so, aZ t ikA 2 ik, aI t txA 60 tx, aI t viA 120 vi, aI t srA 120 sr, aI t frA 122 fr, aI t toA 122 to, aI t hoA 31 ho, aI t keA 31 ke]) (wr := []) (pmI [0, 1, 2, 3, 4, 5, 6, 7, 8, 9, 10, 11, 12] 13 rfl (by decide +kernel) rfl) rfl rfl (met_X5_isPresent l D t hM zA spA svA soA ikA txA viA srA frA toA hoA keA nsv len thr nvi low high nto spo mos z sp sv so ik tx vi sr fr to ho ke 0 x4 _ hv) rfl gX5_near_X5_isPresent rfl ⟨rfl, rfl⟩ ok_X5_isPresent (by decide) (Nat.le_of_ble_eq_true rfl) dX5_near_68 (by decide) (fun r_6 _ hv => ?_)
        try dsimp only at hv
        refine V_perm (ws1 := [oB hM 5 [.ref zA, .ref spA, .ref svA, .int (iI nsv), .ref soA, .ref ikA, .ref txA, .int (iI len), .int (iI thr), .int (iI nvi), .ref viA, .int (iI low), .int (iI high), .ref srA, .ref frA, .ref toA, .ref hoA, .ref keA, .int (iI nto), .int (iI spo), .int (iI mos)], aI t zA 646 z, aI t spA 646 sp, aI t svA 3876 sv, aI t soA 1292 so, aZ t ikA 2 ik, aI t txA 60 tx, aI t viA 120 vi, aI t srA 120 sr, aI t frA 122 fr, aI t toA 122 to, aI t hoA 31 ho, aI t keA 31 ke]) (pmI [0, 1, 2, 3, 4, 5, 6, 7, 8, 9, 10, 11, 12] 13 rfl (by decide +kernel) rfl) ?_
        refine V_if_ne (tgt := 83) hc dX5_near_71 (by decide) hv (fun hv => ?_) (fun hv => ?_)
        · refine V_iload hc dX5_near_83 2 rfl ?_
          refine V_callSI (As := [.int (iI x4)]) hc (wc := []) (wr := [oB hM 5 [.ref zA, .ref spA, .ref svA, .int (iI nsv), .ref soA, .ref ikA, .ref txA, .int (iI len), .int (iI thr), .int (iI nvi), .ref viA, .int (iI low), .int (iI high), .ref srA, .ref frA, .ref toA, .ref hoA, .ref keA, .int (iI nto), .int (iI spo), .int (iI mos)], aI t zA 646 z, aI t spA 646 sp, aI t svA 3876 sv, aI t soA 1292 so, aZ t ikA 2 ik, aI t txA 60 tx, aI t viA 120 vi, aI t srA 120 sr, aI t frA 122 fr, aI t toA 122 to, aI t hoA 31 ho, aI t keA 31 ke]) (pmI [0, 1, 2, 3, 4, 5, 6, 7, 8, 9, 10, 11, 12] 13 rfl (by decide +kernel) rfl) (met_X5_isKey l D t x4 _ hv) rfl gX5_near_X5_isKey rfl ⟨rfl, rfl⟩ ok_X5_isKey (by decide) (Nat.le_of_ble_eq_true rfl) dX5_near_85 (by decide) (fun r_7 _ hv => ?_)
          try dsimp only at hv
          refine V_perm (ws1 := [oB hM 5 [.ref zA, .ref spA, .ref svA, .int (iI nsv), .ref soA, .ref ikA, .ref txA, .int (iI len), .int (iI thr), .int (iI nvi), .ref viA, .int (iI low), .int (iI high), .ref srA, .ref frA, .ref toA, .ref hoA, .ref keA, .int (iI nto), .int (iI spo), .int (iI mos)], aI t zA 646 z, aI t spA 646 sp, aI t svA 3876 sv, aI t soA 1292 so, aZ t ikA 2 ik, aI t txA 60 tx, aI t viA 120 vi, aI t srA 120 sr, aI t frA 122 fr, aI t toA 122 to, aI t hoA 31 ho, aI t keA 31 ke]) (pmI [0, 1, 2, 3, 4, 5, 6, 7, 8, 9, 10, 11, 12] 13 rfl (by decide +kernel) rfl) ?_
          refine V_if_eq (tgt := 96) hc dX5_near_88 (by decide) hv (fun hv => ?_) (fun hv => ?_)
          · refine V_iconst hc dX5_near_96 ?_
            exact V_iret hc hr thr hv rfl dX5_near_97
          · refine V_iload hc dX5_near_91 2 rfl ?_
            refine V_goto (tgt := 97) hc dX5_near_93 (by decide) ?_
            exact V_iret hc hr thr hv rfl dX5_near_97
        · refine V_iload hc dX5_near_74 2 rfl ?_
          refine V_iload_n hc dX5_near_76 1 rfl ?_
          refine V_iadd hc dX5_near_77 ?_
          refine V_istore hc dX5_near_78 [(4, .int (iI (x4 + x3))), (0, .ref hM), (3, .int (iI x3))] (by decide) rfl ?_
          refine V_goto (tgt := 56) hc dX5_near_80 (by decide) ?_
          refine V_lv [1, 2, 0] [(0, .ref hM), (3, .int (iI x3)), (4, .int (iI (x4 + x3)))] rfl ?_
          exact hK_56 (x4 + x3) hv
  have C_41 : ∀ (thr : Int) (z : Nat → Int) (x1 : Int) (x2 : Int) (s0 : Int), wp_X5_near_41 thr z x1 x2 s0 Q → V p l e rm_X5_near s m args below meth c D A 5 0 0 (MQ below (QI D A (W1_X5_near t hM zA spA svA soA ikA txA viA srA frA toA hoA keA nsv len nvi low high nto spo mos z sp sv so ik tx vi sr fr to ho ke) (po_X5_near Q)) args s 0 0 A) 41 [(0, .ref hM), (1, .int (iI x1)), (2, .int (iI x2))] [.int (iI s0)] [oB hM 5 [.ref zA, .ref spA, .ref svA, .int (iI nsv), .ref soA, .ref ikA, .ref txA, .int (iI len), .int (iI thr), .int (iI nvi), .ref viA, .int (iI low), .int (iI high), .ref srA, .ref frA, .ref toA, .ref hoA, .ref keA, .int (iI nto), .int (iI spo), .int (iI mos)], aI t zA 646 z, aI t spA 646 sp, aI t svA 3876 sv, aI t soA 1292 so, aZ t ikA 2 ik, aI t txA 60 tx, aI t viA 120 vi, aI t srA 120 sr, aI t frA 122 fr, aI t toA 122 to, aI t hoA 31 ho, aI t keA 31 ke] := by
    intro thr z x1 x2 s0 hv
    unfold wp_X5_near_41 at hv
    refine V_istore_n hc dX5_near_41 [(3, .int (iI s0)), (0, .ref hM), (1, .int (iI x1)), (2, .int (iI x2))] (by decide) rfl ?_
    refine V_iload_n hc dX5_near_42 3 rfl ?_
    refine V_iconst hc dX5_near_43 ?_
    refine V_icmp_ge (tgt := 51) hc dX5_near_44 (by decide) ⟨hv.1, by decide, hv.2⟩ (fun hv => ?_) (fun hv => ?_)
    · refine V_iload_n hc dX5_near_51 2 rfl ?_
      refine V_iload_n hc dX5_near_52 0 rfl ?_
      refine V_iadd hc dX5_near_53 ?_
      refine V_istore hc dX5_near_54 [(4, .int (iI (x1 + s0))), (3, .int (iI s0)), (0, .ref hM), (1, .int (iI x1)), (2, .int (iI x2))] (by decide) rfl ?_
      refine V_lv [2, 1, 0] [(0, .ref hM), (3, .int (iI s0)), (4, .int (iI (x1 + s0)))] rfl ?_
      obtain ⟨n9, hv⟩ := hv
      exact L_56 thr z s0 n9 (x1 + s0) hv
    · refine V_iload_n hc dX5_near_47 2 rfl ?_
      refine V_goto (tgt := 54) hc dX5_near_48 (by decide) ?_
      refine V_istore hc dX5_near_54 [(4, .int (iI x1)), (3, .int (iI s0)), (0, .ref hM), (1, .int (iI x1)), (2, .int (iI x2))] (by decide) rfl ?_
      refine V_lv [2, 1, 0] [(0, .ref hM), (3, .int (iI s0)), (4, .int (iI x1))] rfl ?_
      obtain ⟨n9, hv⟩ := hv
      exact L_56 thr z s0 n9 x1 hv
  have C_22 : ∀ (thr : Int) (z : Nat → Int) (x1 : Int) (x2 : Int) (s0 : Int), wp_X5_near_22 thr z x1 x2 s0 Q → V p l e rm_X5_near s m args below meth c D A 5 0 0 (MQ below (QI D A (W1_X5_near t hM zA spA svA soA ikA txA viA srA frA toA hoA keA nsv len nvi low high nto spo mos z sp sv so ik tx vi sr fr to ho ke) (po_X5_near Q)) args s 0 0 A) 22 [(0, .ref hM), (1, .int (iI x1)), (2, .int (iI x2))] [.int (iI s0), .ref hM] [oB hM 5 [.ref zA, .ref spA, .ref svA, .int (iI nsv), .ref soA, .ref ikA, .ref txA, .int (iI len), .int (iI thr), .int (iI nvi), .ref viA, .int (iI low), .int (iI high), .ref srA, .ref frA, .ref toA, .ref hoA, .ref keA, .int (iI nto), .int (iI spo), .int (iI mos)], aI t zA 646 z, aI t spA 646 sp, aI t svA 3876 sv, aI t soA 1292 so, aZ t ikA 2 ik, aI t txA 60 tx, aI t viA 120 vi, aI t srA 120 sr, aI t frA 122 fr, aI t toA 122 to, aI t hoA 31 ho, aI t keA 31 ke] := by
    intro thr z x1 x2 s0 hv
    unfold wp_X5_near_22 at hv
    refine V_callVI (As := [.int (iI s0)]) hc (wc := [oB hM 5 [.ref zA, .ref spA, .ref svA, .int (iI nsv), .ref soA, .ref ikA, .ref txA, .int (iI len), .int (iI thr), .int (iI nvi), .ref viA, .int (iI low), .int (iI high), .ref srA, .ref frA, .ref toA, .ref hoA, .ref keA, .int (iI nto), .int (iI spo), .int (iI mos)], aI t zA 646 z, aI t spA 646 sp, aI t svA 3876 sv, aI t soA 1292 so, aZ t ikA 2 ik, aI t txA 60 tx, aI t viA 120 vi, aI t srA 120 sr, aI t frA 122 fr, aI t toA 122 to, aI t hoA 31 ho, aI t keA 31 ke]) (wr := []) (pmI [0, 1, 2, 3, 4, 5, 6, 7, 8, 9, 10, 11, 12] 13 rfl (by decide +kernel) rfl) rfl rfl (met_X5_refused l D t hM zA spA svA soA ikA txA viA srA frA toA hoA keA nsv len thr nvi low high nto spo mos z sp sv so ik tx vi sr fr to ho ke s0 _ hv) rfl gX5_near_X5_refused rfl ⟨rfl, rfl⟩ ok_X5_refused (by decide) (Nat.le_of_ble_eq_true rfl) dX5_near_22 (by decide) (fun r_3 u9 hv => ?_)
    obtain ⟨thr_3, h9⟩ : ∃ z, z = u9 := ⟨_, rfl⟩
    subst h9
    try dsimp only at hv
    refine V_perm (ws1 := [oB hM 5 [.ref zA, .ref spA, .ref svA, .int (iI nsv), .ref soA, .ref ikA, .ref txA, .int (iI len), .int (iI thr_3), .int (iI nvi), .ref viA, .int (iI low), .int (iI high), .ref srA, .ref frA, .ref toA, .ref hoA, .ref keA, .int (iI nto), .int (iI spo), .int (iI mos)], aI t zA 646 z, aI t spA 646 sp, aI t svA 3876 sv, aI t soA 1292 so, aZ t ikA 2 ik, aI t txA 60 tx, aI t viA 120 vi, aI t srA 120 sr, aI t frA 122 fr, aI t toA 122 to, aI t hoA 31 ho, aI t keA 31 ke]) (pmI [0, 1, 2, 3, 4, 5, 6, 7, 8, 9, 10, 11, 12] 13 rfl (by decide +kernel) rfl) ?_
    refine V_if_eq (tgt := 30) hc dX5_near_25 (by decide) hv (fun hv => ?_) (fun hv => ?_)
    · refine V_iload_n hc dX5_near_30 2 rfl ?_
      refine V_iconst hc dX5_near_31 ?_
      refine V_irem hc dX5_near_32 ⟨hv.1, by decide, hv.2⟩ (fun hv => ?_)
      refine V_if_ne (tgt := 40) hc dX5_near_33 (by decide) hv (fun hv => ?_) (fun hv => ?_)
      · refine V_iconst hc dX5_near_40 ?_
        exact C_41 thr_3 z x1 x2 1 hv
      · refine V_iconst hc dX5_near_36 ?_
        refine V_goto (tgt := 41) hc dX5_near_37 (by decide) ?_
        exact C_41 thr_3 z x1 x2 (-1) hv
    · refine V_iconst hc dX5_near_28 ?_
      exact V_iret hc hr thr_3 hv rfl dX5_near_29
  have C_21 : ∀ (thr : Int) (z : Nat → Int) (x1 : Int) (x2 : Int), wp_X5_near_21 thr z x1 x2 Q → V p l e rm_X5_near s m args below meth c D A 5 0 0 (MQ below (QI D A (W1_X5_near t hM zA spA svA soA ikA txA viA srA frA toA hoA keA nsv len nvi low high nto spo mos z sp sv so ik tx vi sr fr to ho ke) (po_X5_near Q)) args s 0 0 A) 21 [(0, .ref hM), (1, .int (iI x1)), (2, .int (iI x2))] [.ref hM] [oB hM 5 [.ref zA, .ref spA, .ref svA, .int (iI nsv), .ref soA, .ref ikA, .ref txA, .int (iI len), .int (iI thr), .int (iI nvi), .ref viA, .int (iI low), .int (iI high), .ref srA, .ref frA, .ref toA, .ref hoA, .ref keA, .int (iI nto), .int (iI spo), .int (iI mos)], aI t zA 646 z, aI t spA 646 sp, aI t svA 3876 sv, aI t soA 1292 so, aZ t ikA 2 ik, aI t txA 60 tx, aI t viA 120 vi, aI t srA 120 sr, aI t frA 122 fr, aI t toA 122 to, aI t hoA 31 ho, aI t keA 31 ke] := by
    intro thr z x1 x2 hv
    unfold wp_X5_near_21 at hv
    refine V_iconst hc dX5_near_21 ?_
    exact C_22 thr z x1 x2 1 hv
  refine V_lv [0, 1, 2] [(0, .ref hM), (1, .int (iI x1)), (2, .int (iI x2))] rfl ?_
  unfold wp_X5_near at hv
  refine V_aload_n hc dX5_near_0 0 rfl ?_
  refine V_iload_n hc dX5_near_1 1 rfl ?_
  refine V_callSI (As := [.int (iI x1)]) hc (wc := []) (wr := [oB hM 5 [.ref zA, .ref spA, .ref svA, .int (iI nsv), .ref soA, .ref ikA, .ref txA, .int (iI len), .int (iI thr), .int (iI nvi), .ref viA, .int (iI low), .int (iI high), .ref srA, .ref frA, .ref toA, .ref hoA, .ref keA, .int (iI nto), .int (iI spo), .int (iI mos)], aI t zA 646 z, aI t spA 646 sp, aI t svA 3876 sv, aI t soA 1292 so, aZ t ikA 2 ik, aI t txA 60 tx, aI t viA 120 vi, aI t srA 120 sr, aI t frA 122 fr, aI t toA 122 to, aI t hoA 31 ho, aI t keA 31 ke]) (pmI [0, 1, 2, 3, 4, 5, 6, 7, 8, 9, 10, 11, 12] 13 rfl (by decide +kernel) rfl) (met_X5_isKey l D t x1 _ hv) rfl gX5_near_X5_isKey rfl ⟨rfl, rfl⟩ ok_X5_isKey (by decide) (Nat.le_of_ble_eq_true rfl) dX5_near_2 (by decide) (fun r_1 _ hv => ?_)
  try dsimp only at hv
  refine V_perm (ws1 := [oB hM 5 [.ref zA, .ref spA, .ref svA, .int (iI nsv), .ref soA, .ref ikA, .ref txA, .int (iI len), .int (iI thr), .int (iI nvi), .ref viA, .int (iI low), .int (iI high), .ref srA, .ref frA, .ref toA, .ref hoA, .ref keA, .int (iI nto), .int (iI spo), .int (iI mos)], aI t zA 646 z, aI t spA 646 sp, aI t svA 3876 sv, aI t soA 1292 so, aZ t ikA 2 ik, aI t txA 60 tx, aI t viA 120 vi, aI t srA 120 sr, aI t frA 122 fr, aI t toA 122 to, aI t hoA 31 ho, aI t keA 31 ke]) (pmI [0, 1, 2, 3, 4, 5, 6, 7, 8, 9, 10, 11, 12] 13 rfl (by decide +kernel) rfl) ?_
  refine V_if_eq (tgt := 21) hc dX5_near_5 (by decide) hv (fun hv => ?_) (fun hv => ?_)
  · exact C_21 thr z x1 x2 hv
  · refine V_iload_n hc dX5_near_8 2 rfl ?_
    refine V_iconst hc dX5_near_9 ?_
    refine V_iconst hc dX5_near_10 ?_
    refine V_callSI (As := [.int (iI x2), .int (iI 0), .int (iI 3)]) hc (wc := []) (wr := [oB hM 5 [.ref zA, .ref spA, .ref svA, .int (iI nsv), .ref soA, .ref ikA, .ref txA, .int (iI len), .int (iI thr), .int (iI nvi), .ref viA, .int (iI low), .int (iI high), .ref srA, .ref frA, .ref toA, .ref hoA, .ref keA, .int (iI nto), .int (iI spo), .int (iI mos)], aI t zA 646 z, aI t spA 646 sp, aI t svA 3876 sv, aI t soA 1292 so, aZ t ikA 2 ik, aI t txA 60 tx, aI t viA 120 vi, aI t srA 120 sr, aI t frA 122 fr, aI t toA 122 to, aI t hoA 31 ho, aI t keA 31 ke]) (pmI [0, 1, 2, 3, 4, 5, 6, 7, 8, 9, 10, 11, 12] 13 rfl (by decide +kernel) rfl) (met_X5_in l D t x2 0 3 _ hv) rfl gX5_near_X5_in rfl ⟨rfl, rfl⟩ ok_X5_in (by decide) (Nat.le_of_ble_eq_true rfl) dX5_near_11 (by decide) (fun r_2 _ hv => ?_)
    try dsimp only at hv
    refine V_perm (ws1 := [oB hM 5 [.ref zA, .ref spA, .ref svA, .int (iI nsv), .ref soA, .ref ikA, .ref txA, .int (iI len), .int (iI thr), .int (iI nvi), .ref viA, .int (iI low), .int (iI high), .ref srA, .ref frA, .ref toA, .ref hoA, .ref keA, .int (iI nto), .int (iI spo), .int (iI mos)], aI t zA 646 z, aI t spA 646 sp, aI t svA 3876 sv, aI t soA 1292 so, aZ t ikA 2 ik, aI t txA 60 tx, aI t viA 120 vi, aI t srA 120 sr, aI t frA 122 fr, aI t toA 122 to, aI t hoA 31 ho, aI t keA 31 ke]) (pmI [0, 1, 2, 3, 4, 5, 6, 7, 8, 9, 10, 11, 12] 13 rfl (by decide +kernel) rfl) ?_
    refine V_if_eq (tgt := 21) hc dX5_near_14 (by decide) hv (fun hv => ?_) (fun hv => ?_)
    · exact C_21 thr z x1 x2 hv
    · refine V_iconst hc dX5_near_17 ?_
      refine V_goto (tgt := 22) hc dX5_near_18 (by decide) ?_
      exact C_22 thr z x1 x2 0 hv
abbrev W1_X5_rankOf (t : Nat → ClassId) (hM : Nat) (zA : Nat) (spA : Nat) (svA : Nat) (soA : Nat) (ikA : Nat) (txA : Nat) (viA : Nat) (srA : Nat) (frA : Nat) (toA : Nat) (hoA : Nat) (keA : Nat) (nsv : Int) (len : Int) (thr : Int) (nvi : Int) (low : Int) (high : Int) (nto : Int) (spo : Int) (mos : Int) (z : Nat → Int) (sp : Nat → Int) (sv : Nat → Int) (so : Nat → Int) (ik : Nat → Int) (tx : Nat → Int) (vi : Nat → Int) (sr : Nat → Int) (fr : Nat → Int) (to : Nat → Int) (ho : Nat → Int) (ke : Nat → Int) (u : Unit) : va_W := [oB hM 5 [.ref zA, .ref spA, .ref svA, .int (iI nsv), .ref soA, .ref ikA, .ref txA, .int (iI len), .int (iI thr), .int (iI nvi), .ref viA, .int (iI low), .int (iI high), .ref srA, .ref frA, .ref toA, .ref hoA, .ref keA, .int (iI nto), .int (iI spo), .int (iI mos)], aI t zA 646 z, aI t spA 646 sp, aI t svA 3876 sv, aI t soA 1292 so, aZ t ikA 2 ik, aI t txA 60 tx, aI t viA 120 vi, aI t srA 120 sr, aI t frA 122 fr, aI t toA 122 to, aI t hoA 31 ho, aI t keA 31 ke]
abbrev po_X5_rankOf (Q : Int → Prop) (r : Int) (u : Unit) : Prop := Q r
abbrev rm_X5_rankOf : Room := { frames := 0, cells := 0, slots := 0, locals := 0 }
def wp_X5_rankOf_5 (z : Nat → Int) (x1 : Int) (x2 : Int) (Q : Int → Prop) (K_5 : Int → Int → Prop) (x3 : Int) (x4 : Int) : Prop := (0 ≤ x1 ∧ x1 < 646) ∧ inR x4 ∧ inR (z x1.toNat) ∧ (x4 ≥ z x1.toNat → Q x3) ∧ (¬ (x4 ≥ z x1.toNat) → (0 ≤ (x1 + 1) + x4 ∧ (x1 + 1) + x4 < 646) ∧ inR (z ((x1 + 1) + x4).toNat) ∧ inR x2 ∧ (z ((x1 + 1) + x4).toNat ≥ x2 → K_5 (x3 + 0) (x4 + 1)) ∧ (¬ (z ((x1 + 1) + x4).toNat ≥ x2) → (0 ≤ (x1 + 121) + x4 ∧ (x1 + 121) + x4 < 646) ∧ inR (z ((x1 + 121) + x4).toNat) ∧ (z ((x1 + 121) + x4).toNat ≠ 0 → K_5 (x3 + 0) (x4 + 1)) ∧ (¬ (z ((x1 + 121) + x4).toNat ≠ 0) → K_5 (x3 + 1) (x4 + 1))))
def wp_X5_rankOf (z : Nat → Int) (x1 : Int) (x2 : Int) (Q : Int → Prop) : Prop := (∃ n, lq2 (wp_X5_rankOf_5 z x1 x2 Q) n 0 0)
theorem m_X5_rankOf_7 : Cond.fieldLink RX5 7 "BackgroundRebuildModel" "z" "[I" ∈ wsX5_rankOf := by decide +kernel
theorem i_X5_rankOf_5 : ∀ w ∈ u_ws RX5 TX5 21, w ∈ wsX5_rankOf := by decide +kernel
theorem ok_X5_rankOf : yX5_rankOf.cls = RX5 ∧ yX5_rankOf.cls ≠ "java/lang/invoke/MethodHandle" ∧ yX5_rankOf.cls ≠ "java/lang/invoke/VarHandle" ∧ (parseMethodDescriptor yX5_rankOf.desc).map (fun d => d.parameters.length) = some 2 := by decide +kernel
set_option maxHeartbeats 4000000 in
set_option maxRecDepth 100000 in
theorem met_X5_rankOf (l : Launch) (D : va_G) (t : Nat → ClassId) (hM : Nat) (zA : Nat) (spA : Nat) (svA : Nat) (soA : Nat) (ikA : Nat) (txA : Nat) (viA : Nat) (srA : Nat) (frA : Nat) (toA : Nat) (hoA : Nat) (keA : Nat) (nsv : Int) (len : Int) (thr : Int) (nvi : Int) (low : Int) (high : Int) (nto : Int) (spo : Int) (mos : Int) (z : Nat → Int) (sp : Nat → Int) (sv : Nat → Int) (so : Nat → Int) (ik : Nat → Int) (tx : Nat → Int) (vi : Nat → Int) (sr : Nat → Int) (fr : Nat → Int) (to : Nat → Int) (ho : Nat → Int) (ke : Nat → Int) (x1 : Int) (x2 : Int) (Q : Int → Prop) (hv : wp_X5_rankOf z x1 x2 Q) : MI l D t yX5_rankOf wsX5_rankOf rm_X5_rankOf [.ref hM, .int (iI x1), .int (iI x2)] [oB hM 5 [.ref zA, .ref spA, .ref svA, .int (iI nsv), .ref soA, .ref ikA, .ref txA, .int (iI len), .int (iI thr), .int (iI nvi), .ref viA, .int (iI low), .int (iI high), .ref srA, .ref frA, .ref toA, .ref hoA, .ref keA, .int (iI nto), .int (iI spo), .int (iI mos)], aI t zA 646 z, aI t spA 646 sp, aI t svA 3876 sv, aI t soA 1292 so, aZ t ikA 2 ik, aI t txA 60 tx, aI t viA 120 vi, aI t srA 120 sr, aI t frA 122 fr, aI t toA 122 to, aI t hoA 31 ho, aI t keA 31 ke] (W1_X5_rankOf t hM zA spA svA soA ikA txA viA srA frA toA hoA keA nsv len thr nvi low high nto spo mos z sp sv so ik tx vi sr fr to ho ke) (po_X5_rankOf Q) 0 0 := by
  refine M_ofi (cc := cX5_rankOf) (nL := 5) (by decide) rfl (Nat.le_of_ble_eq_true rfl) ?_
  intro p e s m args below meth c A hc hr
  have L_5 : ∀ (z : Nat → Int) (x1 : Int) (x2 : Int) (n9 : Nat) (x3 : Int) (x4 : Int), lq2 (wp_X5_rankOf_5 z x1 x2 Q) n9 x3 x4 → V p l e rm_X5_rankOf s m args below meth c D A 5 0 0 (MQ below (QI D A (W1_X5_rankOf t hM zA spA svA soA ikA txA viA srA frA toA hoA keA nsv len thr nvi low high nto spo mos z sp sv so ik tx vi sr fr to ho ke) (po_X5_rankOf Q)) args s 0 0 A) 5 [(0, .ref hM), (1, .int (iI x1)), (2, .int (iI x2)), (3, .int (iI x3)), (4, .int (iI x4))] [] [oB hM 5 [.ref zA, .ref spA, .ref svA, .int (iI nsv), .ref soA, .ref ikA, .ref txA, .int (iI len), .int (iI thr), .int (iI nvi), .ref viA, .int (iI low), .int (iI high), .ref srA, .ref frA, .ref toA, .ref hoA, .ref keA, .int (iI nto), .int (iI spo), .int (iI mos)], aI t zA 646 z, aI t spA 646 sp, aI t svA 3876 sv, aI t soA 1292 so, aZ t ikA 2 ik, aI t txA 60 tx, aI t viA 120 vi, aI t srA 120 sr, aI t frA 122 fr, aI t toA 122 to, aI t hoA 31 ho, aI t keA 31 ke] := by
    intro z x1 x2 n9
    induction n9 with
    | zero =>
      intro x3 x4 hv
      exact hv.elim
    | succ n9 ih =>
      intro x3 x4 hv
      have hv : wp_X5_rankOf_5 z x1 x2 Q (lq2 (wp_X5_rankOf_5 z x1 x2 Q) n9) x3 x4 := hv
      generalize lq2 (wp_X5_rankOf_5 z x1 x2 Q) n9 = K_5 at hv ih
      have hK_5 := ih
      unfold wp_X5_rankOf_5 at hv
      refine V_iload hc dX5_rankOf_5 4 rfl ?_
      refine V_aload_n hc dX5_rankOf_7 0 rfl ?_
      refine V_get (C := RX5) (T := TX5) (N := 21) hc i_X5_rankOf_5 0 rfl rfl 0 (by decide) m_X5_rankOf_7 rfl dX5_rankOf_8 ?_
      refine V_iload_n hc dX5_rankOf_11 1 rfl ?_
      refine V_iald hc 1 rfl (by decide) hv dX5_rankOf_12 (fun hv => ?_)
      refine V_icmp_ge (tgt := 60) hc dX5_rankOf_13 (by decide) hv (fun hv => ?_) (fun hv => ?_)
      · refine V_iload_n hc dX5_rankOf_60 3 rfl ?_
        exact V_iret hc hr () hv rfl dX5_rankOf_61
      · refine V_iload_n hc dX5_rankOf_16 3 rfl ?_
        refine V_aload_n hc dX5_rankOf_17 0 rfl ?_
        refine V_get (C := RX5) (T := TX5) (N := 21) hc i_X5_rankOf_5 0 rfl rfl 0 (by decide) m_X5_rankOf_7 rfl dX5_rankOf_18 ?_
        refine V_iload_n hc dX5_rankOf_21 1 rfl ?_
        refine V_iconst hc dX5_rankOf_22 ?_
        refine V_iadd hc dX5_rankOf_23 ?_
        refine V_iload hc dX5_rankOf_24 4 rfl ?_
        refine V_iadd hc dX5_rankOf_26 ?_
        refine V_iald hc 1 rfl (by decide) hv dX5_rankOf_27 (fun hv => ?_)
        refine V_iload_n hc dX5_rankOf_28 2 rfl ?_
        refine V_icmp_ge (tgt := 51) hc dX5_rankOf_29 (by decide) hv (fun hv => ?_) (fun hv => ?_)
        · refine V_iconst hc dX5_rankOf_51 ?_
          refine V_iadd hc dX5_rankOf_52 ?_
          refine V_istore_n hc dX5_rankOf_53 [(3, .int (iI (x3 + 0))), (0, .ref hM), (1, .int (iI x1)), (2, .int (iI x2)), (4, .int (iI x4))] (by decide) rfl ?_
          refine V_iinc hc dX5_rankOf_54 4 rfl [(4, .int (iI (x4 + 1))), (3, .int (iI (x3 + 0))), (0, .ref hM), (1, .int (iI x1)), (2, .int (iI x2))] (by decide) rfl ?_
          refine V_goto (tgt := 5) hc dX5_rankOf_57 (by decide) ?_
          refine V_lv [2, 3, 4, 1, 0] [(0, .ref hM), (1, .int (iI x1)), (2, .int (iI x2)), (3, .int (iI (x3 + 0))), (4, .int (iI (x4 + 1)))] rfl ?_
          exact hK_5 (x3 + 0) (x4 + 1) hv
        · refine V_aload_n hc dX5_rankOf_32 0 rfl ?_
          refine V_get (C := RX5) (T := TX5) (N := 21) hc i_X5_rankOf_5 0 rfl rfl 0 (by decide) m_X5_rankOf_7 rfl dX5_rankOf_33 ?_
          refine V_iload_n hc dX5_rankOf_36 1 rfl ?_
          refine V_bipush hc dX5_rankOf_37 (by decide) ?_
          refine V_iadd hc dX5_rankOf_39 ?_
          refine V_iload hc dX5_rankOf_40 4 rfl ?_
          refine V_iadd hc dX5_rankOf_42 ?_
          refine V_iald hc 1 rfl (by decide) hv dX5_rankOf_43 (fun hv => ?_)
          refine V_if_ne (tgt := 51) hc dX5_rankOf_44 (by decide) hv (fun hv => ?_) (fun hv => ?_)
          · refine V_iconst hc dX5_rankOf_51 ?_
            refine V_iadd hc dX5_rankOf_52 ?_
            refine V_istore_n hc dX5_rankOf_53 [(3, .int (iI (x3 + 0))), (0, .ref hM), (1, .int (iI x1)), (2, .int (iI x2)), (4, .int (iI x4))] (by decide) rfl ?_
            refine V_iinc hc dX5_rankOf_54 4 rfl [(4, .int (iI (x4 + 1))), (3, .int (iI (x3 + 0))), (0, .ref hM), (1, .int (iI x1)), (2, .int (iI x2))] (by decide) rfl ?_
            refine V_goto (tgt := 5) hc dX5_rankOf_57 (by decide) ?_
            refine V_lv [2, 3, 4, 1, 0] [(0, .ref hM), (1, .int (iI x1)), (2, .int (iI x2)), (3, .int (iI (x3 + 0))), (4, .int (iI (x4 + 1)))] rfl ?_
            exact hK_5 (x3 + 0) (x4 + 1) hv
          · refine V_iconst hc dX5_rankOf_47 ?_
            refine V_goto (tgt := 52) hc dX5_rankOf_48 (by decide) ?_
            refine V_iadd hc dX5_rankOf_52 ?_
            refine V_istore_n hc dX5_rankOf_53 [(3, .int (iI (x3 + 1))), (0, .ref hM), (1, .int (iI x1)), (2, .int (iI x2)), (4, .int (iI x4))] (by decide) rfl ?_
            refine V_iinc hc dX5_rankOf_54 4 rfl [(4, .int (iI (x4 + 1))), (3, .int (iI (x3 + 1))), (0, .ref hM), (1, .int (iI x1)), (2, .int (iI x2))] (by decide) rfl ?_
            refine V_goto (tgt := 5) hc dX5_rankOf_57 (by decide) ?_
            refine V_lv [2, 3, 4, 1, 0] [(0, .ref hM), (1, .int (iI x1)), (2, .int (iI x2)), (3, .int (iI (x3 + 1))), (4, .int (iI (x4 + 1)))] rfl ?_
            exact hK_5 (x3 + 1) (x4 + 1) hv
  refine V_lv [0, 1, 2] [(0, .ref hM), (1, .int (iI x1)), (2, .int (iI x2))] rfl ?_
  unfold wp_X5_rankOf at hv
  refine V_iconst hc dX5_rankOf_0 ?_
  refine V_istore_n hc dX5_rankOf_1 [(3, .int (iI 0)), (0, .ref hM), (1, .int (iI x1)), (2, .int (iI x2))] (by decide) rfl ?_
  refine V_iconst hc dX5_rankOf_2 ?_
  refine V_istore hc dX5_rankOf_3 [(4, .int (iI 0)), (3, .int (iI 0)), (0, .ref hM), (1, .int (iI x1)), (2, .int (iI x2))] (by decide) rfl ?_
  refine V_lv [2, 3, 4, 1, 0] [(0, .ref hM), (1, .int (iI x1)), (2, .int (iI x2)), (3, .int (iI 0)), (4, .int (iI 0))] rfl ?_
  obtain ⟨n9, hv⟩ := hv
  exact L_5 z x1 x2 n9 0 0 hv
abbrev W1_X5_rank (t : Nat → ClassId) (hM : Nat) (zA : Nat) (spA : Nat) (svA : Nat) (soA : Nat) (ikA : Nat) (txA : Nat) (viA : Nat) (srA : Nat) (frA : Nat) (toA : Nat) (hoA : Nat) (keA : Nat) (nsv : Int) (len : Int) (nvi : Int) (low : Int) (high : Int) (nto : Int) (spo : Int) (mos : Int) (z : Nat → Int) (sp : Nat → Int) (sv : Nat → Int) (so : Nat → Int) (ik : Nat → Int) (tx : Nat → Int) (vi : Nat → Int) (sr : Nat → Int) (fr : Nat → Int) (to : Nat → Int) (ho : Nat → Int) (ke : Nat → Int) (u : (Int)) : va_W := [oB hM 5 [.ref zA, .ref spA, .ref svA, .int (iI nsv), .ref soA, .ref ikA, .ref txA, .int (iI len), .int (iI u), .int (iI nvi), .ref viA, .int (iI low), .int (iI high), .ref srA, .ref frA, .ref toA, .ref hoA, .ref keA, .int (iI nto), .int (iI spo), .int (iI mos)], aI t zA 646 z, aI t spA 646 sp, aI t svA 3876 sv, aI t soA 1292 so, aZ t ikA 2 ik, aI t txA 60 tx, aI t viA 120 vi, aI t srA 120 sr, aI t frA 122 fr, aI t toA 122 to, aI t hoA 31 ho, aI t keA 31 ke]
abbrev po_X5_rank (Q : Int → (Int) → Prop) (r : Int) (u : (Int)) : Prop := Q r u
abbrev rm_X5_rank : Room := { frames := 2, cells := 0, slots := 0, locals := 42 }
def wp_X5_rank_13 (thr : Int) (z : Nat → Int) (x1 : Int) (s0 : Int) (Q : Int → (Int) → Prop) : Prop := wp_X5_refused thr s0 (fun r_2 thr_2 => inR r_2 ∧ (r_2 = 0 → wp_X5_rankOf z 0 x1 (fun r_3 => Q r_3 thr_2)) ∧ (¬ (r_2 = 0) → Q 0 thr_2))
def wp_X5_rank (thr : Int) (z : Nat → Int) (x1 : Int) (Q : Int → (Int) → Prop) : Prop := wp_X5_isKey x1 (fun r_1 => inR r_1 ∧ (r_1 = 0 → wp_X5_rank_13 thr z x1 1 Q) ∧ (¬ (r_1 = 0) → wp_X5_rank_13 thr z x1 0 Q))
theorem ok_X5_rank : yX5_rank.cls = RX5 ∧ yX5_rank.cls ≠ "java/lang/invoke/MethodHandle" ∧ yX5_rank.cls ≠ "java/lang/invoke/VarHandle" ∧ (parseMethodDescriptor yX5_rank.desc).map (fun d => d.parameters.length) = some 1 := by decide +kernel
set_option maxHeartbeats 4000000 in
set_option maxRecDepth 100000 in
theorem met_X5_rank (l : Launch) (D : va_G) (t : Nat → ClassId) (hM : Nat) (zA : Nat) (spA : Nat) (svA : Nat) (soA : Nat) (ikA : Nat) (txA : Nat) (viA : Nat) (srA : Nat) (frA : Nat) (toA : Nat) (hoA : Nat) (keA : Nat) (nsv : Int) (len : Int) (thr : Int) (nvi : Int) (low : Int) (high : Int) (nto : Int) (spo : Int) (mos : Int) (z : Nat → Int) (sp : Nat → Int) (sv : Nat → Int) (so : Nat → Int) (ik : Nat → Int) (tx : Nat → Int) (vi : Nat → Int) (sr : Nat → Int) (fr : Nat → Int) (to : Nat → Int) (ho : Nat → Int) (ke : Nat → Int) (x1 : Int) (Q : Int → (Int) → Prop) (hv : wp_X5_rank thr z x1 Q) : MI l D t yX5_rank wsX5_rank rm_X5_rank [.ref hM, .int (iI x1)] [oB hM 5 [.ref zA, .ref spA, .ref svA, .int (iI nsv), .ref soA, .ref ikA, .ref txA, .int (iI len), .int (iI thr), .int (iI nvi), .ref viA, .int (iI low), .int (iI high), .ref srA, .ref frA, .ref toA, .ref hoA, .ref keA, .int (iI nto), .int (iI spo), .int (iI mos)], aI t zA 646 z, aI t spA 646 sp, aI t svA 3876 sv, aI t soA 1292 so, aZ t ikA 2 ik, aI t txA 60 tx, aI t viA 120 vi, aI t srA 120 sr, aI t frA 122 fr, aI t toA 122 to, aI t hoA 31 ho, aI t keA 31 ke] (W1_X5_rank t hM zA spA svA soA ikA txA viA srA frA toA hoA keA nsv len nvi low high nto spo mos z sp sv so ik tx vi sr fr to ho ke) (po_X5_rank Q) 0 0 := by
  refine M_ofi (cc := cX5_rank) (nL := 2) (by decide) rfl (Nat.le_of_ble_eq_true rfl) ?_
  intro p e s m args below meth c A hc hr
  have C_13 : ∀ (thr : Int) (z : Nat → Int) (x1 : Int) (s0 : Int), wp_X5_rank_13 thr z x1 s0 Q → V p l e rm_X5_rank s m args below meth c D A 2 0 0 (MQ below (QI D A (W1_X5_rank t hM zA spA svA soA ikA txA viA srA frA toA hoA keA nsv len nvi low high nto spo mos z sp sv so ik tx vi sr fr to ho ke) (po_X5_rank Q)) args s 0 0 A) 13 [(0, .ref hM), (1, .int (iI x1))] [.int (iI s0), .ref hM] [oB hM 5 [.ref zA, .ref spA, .ref svA, .int (iI nsv), .ref soA, .ref ikA, .ref txA, .int (iI len), .int (iI thr), .int (iI nvi), .ref viA, .int (iI low), .int (iI high), .ref srA, .ref frA, .ref toA, .ref hoA, .ref keA, .int (iI nto), .int (iI spo), .int (iI mos)], aI t zA 646 z, aI t spA 646 sp, aI t svA 3876 sv, aI t soA 1292 so, aZ t ikA 2 ik, aI t txA 60 tx, aI t viA 120 vi, aI t srA 120 sr, aI t frA 122 fr, aI t toA 122 to, aI t hoA 31 ho, aI t keA 31 ke] := by
    intro thr z x1 s0 hv
    unfold wp_X5_rank_13 at hv
    refine V_callVI (As := [.int (iI s0)]) hc (wc := [oB hM 5 [.ref zA, .ref spA, .ref svA, .int (iI nsv), .ref soA, .ref ikA, .ref txA, .int (iI len), .int (iI thr), .int (iI nvi), .ref viA, .int (iI low), .int (iI high), .ref srA, .ref frA, .ref toA, .ref hoA, .ref keA, .int (iI nto), .int (iI spo), .int (iI mos)], aI t zA 646 z, aI t spA 646 sp, aI t svA 3876 sv, aI t soA 1292 so, aZ t ikA 2 ik, aI t txA 60 tx, aI t viA 120 vi, aI t srA 120 sr, aI t frA 122 fr, aI t toA 122 to, aI t hoA 31 ho, aI t keA 31 ke]) (wr := []) (pmI [0, 1, 2, 3, 4, 5, 6, 7, 8, 9, 10, 11, 12] 13 rfl (by decide +kernel) rfl) rfl rfl (met_X5_refused l D t hM zA spA svA soA ikA txA viA srA frA toA hoA keA nsv len thr nvi low high nto spo mos z sp sv so ik tx vi sr fr to ho ke s0 _ hv) rfl gX5_rank_X5_refused rfl ⟨rfl, rfl⟩ ok_X5_refused (by decide) (Nat.le_of_ble_eq_true rfl) dX5_rank_13 (by decide) (fun r_2 u9 hv => ?_)
    obtain ⟨thr_2, h9⟩ : ∃ z, z = u9 := ⟨_, rfl⟩
    subst h9
    try dsimp only at hv
    refine V_perm (ws1 := [oB hM 5 [.ref zA, .ref spA, .ref svA, .int (iI nsv), .ref soA, .ref ikA, .ref txA, .int (iI len), .int (iI thr_2), .int (iI nvi), .ref viA, .int (iI low), .int (iI high), .ref srA, .ref frA, .ref toA, .ref hoA, .ref keA, .int (iI nto), .int (iI spo), .int (iI mos)], aI t zA 646 z, aI t spA 646 sp, aI t svA 3876 sv, aI t soA 1292 so, aZ t ikA 2 ik, aI t txA 60 tx, aI t viA 120 vi, aI t srA 120 sr, aI t frA 122 fr, aI t toA 122 to, aI t hoA 31 ho, aI t keA 31 ke]) (pmI [0, 1, 2, 3, 4, 5, 6, 7, 8, 9, 10, 11, 12] 13 rfl (by decide +kernel) rfl) ?_
    refine V_if_eq (tgt := 23) hc dX5_rank_16 (by decide) hv (fun hv => ?_) (fun hv => ?_)
    · refine V_aload_n hc dX5_rank_23 0 rfl ?_
      refine V_iconst hc dX5_rank_24 ?_
      refine V_iload_n hc dX5_rank_25 1 rfl ?_
      refine V_callVI (As := [.int (iI 0), .int (iI x1)]) hc (wc := [oB hM 5 [.ref zA, .ref spA, .ref svA, .int (iI nsv), .ref soA, .ref ikA, .ref txA, .int (iI len), .int (iI thr_2), .int (iI nvi), .ref viA, .int (iI low), .int (iI high), .ref srA, .ref frA, .ref toA, .ref hoA, .ref keA, .int (iI nto), .int (iI spo), .int (iI mos)], aI t zA 646 z, aI t spA 646 sp, aI t svA 3876 sv, aI t soA 1292 so, aZ t ikA 2 ik, aI t txA 60 tx, aI t viA 120 vi, aI t srA 120 sr, aI t frA 122 fr, aI t toA 122 to, aI t hoA 31 ho, aI t keA 31 ke]) (wr := []) (pmI [0, 1, 2, 3, 4, 5, 6, 7, 8, 9, 10, 11, 12] 13 rfl (by decide +kernel) rfl) rfl rfl (met_X5_rankOf l D t hM zA spA svA soA ikA txA viA srA frA toA hoA keA nsv len thr_2 nvi low high nto spo mos z sp sv so ik tx vi sr fr to ho ke 0 x1 _ hv) rfl gX5_rank_X5_rankOf rfl ⟨rfl, rfl⟩ ok_X5_rankOf (by decide) (Nat.le_of_ble_eq_true rfl) dX5_rank_26 (by decide) (fun r_3 _ hv => ?_)
      try dsimp only at hv
      refine V_perm (ws1 := [oB hM 5 [.ref zA, .ref spA, .ref svA, .int (iI nsv), .ref soA, .ref ikA, .ref txA, .int (iI len), .int (iI thr_2), .int (iI nvi), .ref viA, .int (iI low), .int (iI high), .ref srA, .ref frA, .ref toA, .ref hoA, .ref keA, .int (iI nto), .int (iI spo), .int (iI mos)], aI t zA 646 z, aI t spA 646 sp, aI t svA 3876 sv, aI t soA 1292 so, aZ t ikA 2 ik, aI t txA 60 tx, aI t viA 120 vi, aI t srA 120 sr, aI t frA 122 fr, aI t toA 122 to, aI t hoA 31 ho, aI t keA 31 ke]) (pmI [0, 1, 2, 3, 4, 5, 6, 7, 8, 9, 10, 11, 12] 13 rfl (by decide +kernel) rfl) ?_
      exact V_iret hc hr thr_2 hv rfl dX5_rank_29
    · refine V_iconst hc dX5_rank_19 ?_
      refine V_goto (tgt := 29) hc dX5_rank_20 (by decide) ?_
      exact V_iret hc hr thr_2 hv rfl dX5_rank_29
  refine V_lv [0, 1] [(0, .ref hM), (1, .int (iI x1))] rfl ?_
  unfold wp_X5_rank at hv
  refine V_aload_n hc dX5_rank_0 0 rfl ?_
  refine V_iload_n hc dX5_rank_1 1 rfl ?_
  refine V_callSI (As := [.int (iI x1)]) hc (wc := []) (wr := [oB hM 5 [.ref zA, .ref spA, .ref svA, .int (iI nsv), .ref soA, .ref ikA, .ref txA, .int (iI len), .int (iI thr), .int (iI nvi), .ref viA, .int (iI low), .int (iI high), .ref srA, .ref frA, .ref toA, .ref hoA, .ref keA, .int (iI nto), .int (iI spo), .int (iI mos)], aI t zA 646 z, aI t spA 646 sp, aI t svA 3876 sv, aI t soA 1292 so, aZ t ikA 2 ik, aI t txA 60 tx, aI t viA 120 vi, aI t srA 120 sr, aI t frA 122 fr, aI t toA 122 to, aI t hoA 31 ho, aI t keA 31 ke]) (pmI [0, 1, 2, 3, 4, 5, 6, 7, 8, 9, 10, 11, 12] 13 rfl (by decide +kernel) rfl) (met_X5_isKey l D t x1 _ hv) rfl gX5_rank_X5_isKey rfl ⟨rfl, rfl⟩ ok_X5_isKey (by decide) (Nat.le_of_ble_eq_true rfl) dX5_rank_2 (by decide) (fun r_1 _ hv => ?_)
  try dsimp only at hv
  refine V_perm (ws1 := [oB hM 5 [.ref zA, .ref spA, .ref svA, .int (iI nsv), .ref soA, .ref ikA, .ref txA, .int (iI len), .int (iI thr), .int (iI nvi), .ref viA, .int (iI low), .int (iI high), .ref srA, .ref frA, .ref toA, .ref hoA, .ref keA, .int (iI nto), .int (iI spo), .int (iI mos)], aI t zA 646 z, aI t spA 646 sp, aI t svA 3876 sv, aI t soA 1292 so, aZ t ikA 2 ik, aI t txA 60 tx, aI t viA 120 vi, aI t srA 120 sr, aI t frA 122 fr, aI t toA 122 to, aI t hoA 31 ho, aI t keA 31 ke]) (pmI [0, 1, 2, 3, 4, 5, 6, 7, 8, 9, 10, 11, 12] 13 rfl (by decide +kernel) rfl) ?_
  refine V_if_eq (tgt := 12) hc dX5_rank_5 (by decide) hv (fun hv => ?_) (fun hv => ?_)
  · refine V_iconst hc dX5_rank_12 ?_
    exact C_13 thr z x1 1 hv
  · refine V_iconst hc dX5_rank_8 ?_
    refine V_goto (tgt := 13) hc dX5_rank_9 (by decide) ?_
    exact C_13 thr z x1 0 hv
abbrev W1_X5_keyAt (t : Nat → ClassId) (hM : Nat) (zA : Nat) (spA : Nat) (svA : Nat) (soA : Nat) (ikA : Nat) (txA : Nat) (viA : Nat) (srA : Nat) (frA : Nat) (toA : Nat) (hoA : Nat) (keA : Nat) (nsv : Int) (len : Int) (nvi : Int) (low : Int) (high : Int) (nto : Int) (spo : Int) (mos : Int) (z : Nat → Int) (sp : Nat → Int) (sv : Nat → Int) (so : Nat → Int) (ik : Nat → Int) (tx : Nat → Int) (vi : Nat → Int) (sr : Nat → Int) (fr : Nat → Int) (to : Nat → Int) (ho : Nat → Int) (ke : Nat → Int) (u : (Int)) : va_W := [oB hM 5 [.ref zA, .ref spA, .ref svA, .int (iI nsv), .ref soA, .ref ikA, .ref txA, .int (iI len), .int (iI u), .int (iI nvi), .ref viA, .int (iI low), .int (iI high), .ref srA, .ref frA, .ref toA, .ref hoA, .ref keA, .int (iI nto), .int (iI spo), .int (iI mos)], aI t zA 646 z, aI t spA 646 sp, aI t svA 3876 sv, aI t soA 1292 so, aZ t ikA 2 ik, aI t txA 60 tx, aI t viA 120 vi, aI t srA 120 sr, aI t frA 122 fr, aI t toA 122 to, aI t hoA 31 ho, aI t keA 31 ke]
abbrev po_X5_keyAt (Q : Int → (Int) → Prop) (r : Int) (u : (Int)) : Prop := Q r u
abbrev rm_X5_keyAt : Room := { frames := 1, cells := 0, slots := 0, locals := 24 }
def wp_X5_keyAt_22 (thr : Int) (z : Nat → Int) (x1 : Int) (Q : Int → (Int) → Prop) (K_22 : Int → Int → Prop) (x2 : Int) (x3 : Int) : Prop := inR x3 ∧ inR (z 0) ∧ (x3 ≥ z 0 → Q x2 thr) ∧ (¬ (x3 ≥ z 0) → (0 ≤ 1 + x3 ∧ 1 + x3 < 646) ∧ (0 ≤ 121 + x3 ∧ 121 + x3 < 646) ∧ inR (z (121 + x3).toNat) ∧ (z (121 + x3).toNat ≠ 0 → K_22 x2 (x3 + 1)) ∧ (¬ (z (121 + x3).toNat ≠ 0) → wp_X5_rankOf z 0 (z (1 + x3).toNat) (fun r_2 => inR r_2 ∧ inR x1 ∧ (r_2 ≠ x1 → K_22 x2 (x3 + 1)) ∧ (¬ (r_2 ≠ x1) → K_22 (z (1 + x3).toNat) (x3 + 1)))))
def wp_X5_keyAt_10 (thr : Int) (z : Nat → Int) (x1 : Int) (s0 : Int) (Q : Int → (Int) → Prop) : Prop := wp_X5_refused thr s0 (fun r_1 thr_1 => inR r_1 ∧ (r_1 = 0 → (∃ n, lq2 (wp_X5_keyAt_22 thr_1 z x1 Q) n (-1) 0)) ∧ (¬ (r_1 = 0) → Q 0 thr_1))
def wp_X5_keyAt (thr : Int) (z : Nat → Int) (x1 : Int) (Q : Int → (Int) → Prop) : Prop := inR x1 ∧ (x1 ≥ 0 → wp_X5_keyAt_10 thr z x1 0 Q) ∧ (¬ (x1 ≥ 0) → wp_X5_keyAt_10 thr z x1 1 Q)
theorem m_X5_keyAt_7 : Cond.fieldLink RX5 7 "BackgroundRebuildModel" "z" "[I" ∈ wsX5_keyAt := by decide +kernel
theorem i_X5_keyAt_5 : ∀ w ∈ u_ws RX5 TX5 21, w ∈ wsX5_keyAt := by decide +kernel
theorem ok_X5_keyAt : yX5_keyAt.cls = RX5 ∧ yX5_keyAt.cls ≠ "java/lang/invoke/MethodHandle" ∧ yX5_keyAt.cls ≠ "java/lang/invoke/VarHandle" ∧ (parseMethodDescriptor yX5_keyAt.desc).map (fun d => d.parameters.length) = some 1 := by decide +kernel
set_option maxHeartbeats 4000000 in
set_option maxRecDepth 100000 in
theorem met_X5_keyAt (l : Launch) (D : va_G) (t : Nat → ClassId) (hM : Nat) (zA : Nat) (spA : Nat) (svA : Nat) (soA : Nat) (ikA : Nat) (txA : Nat) (viA : Nat) (srA : Nat) (frA : Nat) (toA : Nat) (hoA : Nat) (keA : Nat) (nsv : Int) (len : Int) (thr : Int) (nvi : Int) (low : Int) (high : Int) (nto : Int) (spo : Int) (mos : Int) (z : Nat → Int) (sp : Nat → Int) (sv : Nat → Int) (so : Nat → Int) (ik : Nat → Int) (tx : Nat → Int) (vi : Nat → Int) (sr : Nat → Int) (fr : Nat → Int) (to : Nat → Int) (ho : Nat → Int) (ke : Nat → Int) (x1 : Int) (Q : Int → (Int) → Prop) (hv : wp_X5_keyAt thr z x1 Q) : MI l D t yX5_keyAt wsX5_keyAt rm_X5_keyAt [.ref hM, .int (iI x1)] [oB hM 5 [.ref zA, .ref spA, .ref svA, .int (iI nsv), .ref soA, .ref ikA, .ref txA, .int (iI len), .int (iI thr), .int (iI nvi), .ref viA, .int (iI low), .int (iI high), .ref srA, .ref frA, .ref toA, .ref hoA, .ref keA, .int (iI nto), .int (iI spo), .int (iI mos)], aI t zA 646 z, aI t spA 646 sp, aI t svA 3876 sv, aI t soA 1292 so, aZ t ikA 2 ik, aI t txA 60 tx, aI t viA 120 vi, aI t srA 120 sr, aI t frA 122 fr, aI t toA 122 to, aI t hoA 31 ho, aI t keA 31 ke] (W1_X5_keyAt t hM zA spA svA soA ikA txA viA srA frA toA hoA keA nsv len nvi low high nto spo mos z sp sv so ik tx vi sr fr to ho ke) (po_X5_keyAt Q) 0 0 := by
  refine M_ofi (cc := cX5_keyAt) (nL := 5) (by decide) rfl (Nat.le_of_ble_eq_true rfl) ?_
  intro p e s m args below meth c A hc hr
  have L_22 : ∀ (thr : Int) (z : Nat → Int) (x1 : Int) (n9 : Nat) (x2 : Int) (x3 : Int), lq2 (wp_X5_keyAt_22 thr z x1 Q) n9 x2 x3 → V p l e rm_X5_keyAt s m args below meth c D A 5 0 0 (MQ below (QI D A (W1_X5_keyAt t hM zA spA svA soA ikA txA viA srA frA toA hoA keA nsv len nvi low high nto spo mos z sp sv so ik tx vi sr fr to ho ke) (po_X5_keyAt Q)) args s 0 0 A) 22 [(0, .ref hM), (1, .int (iI x1)), (2, .int (iI x2)), (3, .int (iI x3))] [] [oB hM 5 [.ref zA, .ref spA, .ref svA, .int (iI nsv), .ref soA, .ref ikA, .ref txA, .int (iI len), .int (iI thr), .int (iI nvi), .ref viA, .int (iI low), .int (iI high), .ref srA, .ref frA, .ref toA, .ref hoA, .ref keA, .int (iI nto), .int (iI spo), .int (iI mos)], aI t zA 646 z, aI t spA 646 sp, aI t svA 3876 sv, aI t soA 1292 so, aZ t ikA 2 ik, aI t txA 60 tx, aI t viA 120 vi, aI t srA 120 sr, aI t frA 122 fr, aI t toA 122 to, aI t hoA 31 ho, aI t keA 31 ke] := by
    intro thr z x1 n9
    induction n9 with
    | zero =>
      intro x2 x3 hv
      exact hv.elim
    | succ n9 ih =>
      intro x2 x3 hv
      have hv : wp_X5_keyAt_22 thr z x1 Q (lq2 (wp_X5_keyAt_22 thr z x1 Q) n9) x2 x3 := hv
      generalize lq2 (wp_X5_keyAt_22 thr z x1 Q) n9 = K_22 at hv ih
      have hK_22 := ih
      unfold wp_X5_keyAt_22 at hv
      refine V_iload_n hc dX5_keyAt_22 3 rfl ?_
      refine V_aload_n hc dX5_keyAt_23 0 rfl ?_
      refine V_get (C := RX5) (T := TX5) (N := 21) hc i_X5_keyAt_5 0 rfl rfl 0 (by decide) m_X5_keyAt_7 rfl dX5_keyAt_24 ?_
      refine V_iconst hc dX5_keyAt_27 ?_
      refine V_iald hc 1 rfl (by decide) ⟨by decide, hv⟩ dX5_keyAt_28 (fun hv => ?_)
      refine V_icmp_ge (tgt := 78) hc dX5_keyAt_29 (by decide) hv (fun hv => ?_) (fun hv => ?_)
      · refine V_iload_n hc dX5_keyAt_78 2 rfl ?_
        exact V_iret hc hr thr hv rfl dX5_keyAt_79
      · refine V_aload_n hc dX5_keyAt_32 0 rfl ?_
        refine V_get (C := RX5) (T := TX5) (N := 21) hc i_X5_keyAt_5 0 rfl rfl 0 (by decide) m_X5_keyAt_7 rfl dX5_keyAt_33 ?_
        refine V_iconst hc dX5_keyAt_36 ?_
        refine V_iload_n hc dX5_keyAt_37 3 rfl ?_
        refine V_iadd hc dX5_keyAt_38 ?_
        refine V_iald hc 1 rfl (by decide) hv dX5_keyAt_39 (fun hv => ?_)
        refine V_istore hc dX5_keyAt_40 [(4, .int (iI (z (1 + x3).toNat))), (0, .ref hM), (1, .int (iI x1)), (2, .int (iI x2)), (3, .int (iI x3))] (by decide) rfl ?_
        refine V_aload_n hc dX5_keyAt_42 1 rfl ?_
        refine V_get (C := RX5) (T := TX5) (N := 21) hc i_X5_keyAt_5 0 rfl rfl 0 (by decide) m_X5_keyAt_7 rfl dX5_keyAt_43 ?_
        refine V_bipush hc dX5_keyAt_46 (by decide) ?_
        refine V_iload_n hc dX5_keyAt_48 4 rfl ?_
        refine V_iadd hc dX5_keyAt_49 ?_
        refine V_iald hc 1 rfl (by decide) hv dX5_keyAt_50 (fun hv => ?_)
        refine V_if_ne (tgt := 70) hc dX5_keyAt_51 (by decide) hv (fun hv => ?_) (fun hv => ?_)
        · refine V_iload_n hc dX5_keyAt_70 3 rfl ?_
          refine V_istore_n hc dX5_keyAt_71 [(2, .int (iI x2)), (4, .int (iI (z (1 + x3).toNat))), (0, .ref hM), (1, .int (iI x1)), (3, .int (iI x3))] (by decide) rfl ?_
          refine V_iinc hc dX5_keyAt_72 4 rfl [(3, .int (iI (x3 + 1))), (2, .int (iI x2)), (4, .int (iI (z (1 + x3).toNat))), (0, .ref hM), (1, .int (iI x1))] (by decide) rfl ?_
          refine V_goto (tgt := 22) hc dX5_keyAt_75 (by decide) ?_
          refine V_lv [3, 4, 1, 0] [(0, .ref hM), (1, .int (iI x1)), (2, .int (iI x2)), (3, .int (iI (x3 + 1)))] rfl ?_
          exact hK_22 x2 (x3 + 1) hv
        · refine V_aload_n hc dX5_keyAt_54 1 rfl ?_
          refine V_iconst hc dX5_keyAt_55 ?_
          refine V_iload hc dX5_keyAt_56 0 rfl ?_
          refine V_callVI (As := [.int (iI 0), .int (iI (z (1 + x3).toNat))]) hc (wc := [oB hM 5 [.ref zA, .ref spA, .ref svA, .int (iI nsv), .ref soA, .ref ikA, .ref txA, .int (iI len), .int (iI thr), .int (iI nvi), .ref viA, .int (iI low), .int (iI high), .ref srA, .ref frA, .ref toA, .ref hoA, .ref keA, .int (iI nto), .int (iI spo), .int (iI mos)], aI t zA 646 z, aI t spA 646 sp, aI t svA 3876 sv, aI t soA 1292 so, aZ t ikA 2 ik, aI t txA 60 tx, aI t viA 120 vi, aI t srA 120 sr, aI t frA 122 fr, aI t toA 122 to, aI t hoA 31 ho, aI t keA 31 ke]) (wr := []) (pmI [0, 1, 2, 3, 4, 5, 6, 7, 8, 9, 10, 11, 12] 13 rfl (by decide +kernel) rfl) rfl rfl (met_X5_rankOf l D t hM zA spA svA soA ikA txA viA srA frA toA hoA keA nsv len thr nvi low high nto spo mos z sp sv so ik tx vi sr fr to ho ke 0 (z (1 + x3).toNat) _ hv) rfl gX5_keyAt_X5_rankOf rfl ⟨rfl, rfl⟩ ok_X5_rankOf (by decide) (Nat.le_of_ble_eq_true rfl) dX5_keyAt_58 (by decide) (fun r_2 _ hv => ?_)
          try dsimp only at hv
          refine V_perm (ws1 := [oB hM 5 [.ref zA, .ref spA, .ref svA, .int (iI nsv), .ref soA, .ref ikA, .ref txA, .int (iI len), .int (iI thr), .int (iI nvi), .ref viA, .int (iI low), .int (iI high), .ref srA, .ref frA, .ref toA, .ref hoA, .ref keA, .int (iI nto), .int (iI spo), .int (iI mos)], aI t zA 646 z, aI t spA 646 sp, aI t svA 3876 sv, aI t soA 1292 so, aZ t ikA 2 ik, aI t txA 60 tx, aI t viA 120 vi, aI t srA 120 sr, aI t frA 122 fr, aI t toA 122 to, aI t hoA 31 ho, aI t keA 31 ke]) (pmI [0, 1, 2, 3, 4, 5, 6, 7, 8, 9, 10, 11, 12] 13 rfl (by decide +kernel) rfl) ?_
          refine V_iload_n hc dX5_keyAt_61 2 rfl ?_
          refine V_icmp_ne (tgt := 70) hc dX5_keyAt_62 (by decide) hv (fun hv => ?_) (fun hv => ?_)
          · refine V_iload_n hc dX5_keyAt_70 3 rfl ?_
            refine V_istore_n hc dX5_keyAt_71 [(2, .int (iI x2)), (4, .int (iI (z (1 + x3).toNat))), (0, .ref hM), (1, .int (iI x1)), (3, .int (iI x3))] (by decide) rfl ?_
            refine V_iinc hc dX5_keyAt_72 4 rfl [(3, .int (iI (x3 + 1))), (2, .int (iI x2)), (4, .int (iI (z (1 + x3).toNat))), (0, .ref hM), (1, .int (iI x1))] (by decide) rfl ?_
            refine V_goto (tgt := 22) hc dX5_keyAt_75 (by decide) ?_
            refine V_lv [3, 4, 1, 0] [(0, .ref hM), (1, .int (iI x1)), (2, .int (iI x2)), (3, .int (iI (x3 + 1)))] rfl ?_
            exact hK_22 x2 (x3 + 1) hv
          · refine V_iload hc dX5_keyAt_65 0 rfl ?_
            refine V_goto (tgt := 71) hc dX5_keyAt_67 (by decide) ?_
            refine V_istore_n hc dX5_keyAt_71 [(2, .int (iI (z (1 + x3).toNat))), (4, .int (iI (z (1 + x3).toNat))), (0, .ref hM), (1, .int (iI x1)), (3, .int (iI x3))] (by decide) rfl ?_
            refine V_iinc hc dX5_keyAt_72 4 rfl [(3, .int (iI (x3 + 1))), (2, .int (iI (z (1 + x3).toNat))), (4, .int (iI (z (1 + x3).toNat))), (0, .ref hM), (1, .int (iI x1))] (by decide) rfl ?_
            refine V_goto (tgt := 22) hc dX5_keyAt_75 (by decide) ?_
            refine V_lv [3, 4, 1, 0] [(0, .ref hM), (1, .int (iI x1)), (2, .int (iI (z (1 + x3).toNat))), (3, .int (iI (x3 + 1)))] rfl ?_
            exact hK_22 (z (1 + x3).toNat) (x3 + 1) hv
  have C_10 : ∀ (thr : Int) (z : Nat → Int) (x1 : Int) (s0 : Int), wp_X5_keyAt_10 thr z x1 s0 Q → V p l e rm_X5_keyAt s m args below meth c D A 5 0 0 (MQ below (QI D A (W1_X5_keyAt t hM zA spA svA soA ikA txA viA srA frA toA hoA keA nsv len nvi low high nto spo mos z sp sv so ik tx vi sr fr to ho ke) (po_X5_keyAt Q)) args s 0 0 A) 10 [(0, .ref hM), (1, .int (iI x1))] [.int (iI s0), .ref hM] [oB hM 5 [.ref zA, .ref spA, .ref svA, .int (iI nsv), .ref soA, .ref ikA, .ref txA, .int (iI len), .int (iI thr), .int (iI nvi), .ref viA, .int (iI low), .int (iI high), .ref srA, .ref frA, .ref toA, .ref hoA, .ref keA, .int (iI nto), .int (iI spo), .int (iI mos)], aI t zA 646 z, aI t spA 646 sp, aI t svA 3876 sv, aI t soA 1292 so, aZ t ikA 2 ik, aI t txA 60 tx, aI t viA 120 vi, aI t srA 120 sr, aI t frA 122 fr, aI t toA 122 to, aI t hoA 31 ho, aI t keA 31 ke] := by
    intro thr z x1 s0 hv
    unfold wp_X5_keyAt_10 at hv
    refine V_callVI (As := [.int (iI s0)]) hc (wc := [oB hM 5 [.ref zA, .ref spA, .ref svA, .int (iI nsv), .ref soA, .ref ikA, .ref txA, .int (iI len), .int (iI thr), .int (iI nvi), .ref viA, .int (iI low), .int (iI high), .ref srA, .ref frA, .ref toA, .ref hoA, .ref keA, .int (iI nto), .int (iI spo), .int (iI mos)], aI t zA 646 z, aI t spA 646 sp, aI t svA 3876 sv, aI t soA 1292 so, aZ t ikA 2 ik, aI t txA 60 tx, aI t viA 120 vi, aI t srA 120 sr, aI t frA 122 fr, aI t toA 122 to, aI t hoA 31 ho, aI t keA 31 ke]) (wr := []) (pmI [0, 1, 2, 3, 4, 5, 6, 7, 8, 9, 10, 11, 12] 13 rfl (by decide +kernel) rfl) rfl rfl (met_X5_refused l D t hM zA spA svA soA ikA txA viA srA frA toA hoA keA nsv len thr nvi low high nto spo mos z sp sv so ik tx vi sr fr to ho ke s0 _ hv) rfl gX5_keyAt_X5_refused rfl ⟨rfl, rfl⟩ ok_X5_refused (by decide) (Nat.le_of_ble_eq_true rfl) dX5_keyAt_10 (by decide) (fun r_1 u9 hv => ?_)
    obtain ⟨thr_1, h9⟩ : ∃ z, z = u9 := ⟨_, rfl⟩
    subst h9
    try dsimp only at hv
    refine V_perm (ws1 := [oB hM 5 [.ref zA, .ref spA, .ref svA, .int (iI nsv), .ref soA, .ref ikA, .ref txA, .int (iI len), .int (iI thr_1), .int (iI nvi), .ref viA, .int (iI low), .int (iI high), .ref srA, .ref frA, .ref toA, .ref hoA, .ref keA, .int (iI nto), .int (iI spo), .int (iI mos)], aI t zA 646 z, aI t spA 646 sp, aI t svA 3876 sv, aI t soA 1292 so, aZ t ikA 2 ik, aI t txA 60 tx, aI t viA 120 vi, aI t srA 120 sr, aI t frA 122 fr, aI t toA 122 to, aI t hoA 31 ho, aI t keA 31 ke]) (pmI [0, 1, 2, 3, 4, 5, 6, 7, 8, 9, 10, 11, 12] 13 rfl (by decide +kernel) rfl) ?_
    refine V_if_eq (tgt := 18) hc dX5_keyAt_13 (by decide) hv (fun hv => ?_) (fun hv => ?_)
    · refine V_iconst hc dX5_keyAt_18 ?_
      refine V_istore_n hc dX5_keyAt_19 [(2, .int (iI (-1))), (0, .ref hM), (1, .int (iI x1))] (by decide) rfl ?_
      refine V_iconst hc dX5_keyAt_20 ?_
      refine V_istore_n hc dX5_keyAt_21 [(3, .int (iI 0)), (2, .int (iI (-1))), (0, .ref hM), (1, .int (iI x1))] (by decide) rfl ?_
      refine V_lv [2, 3, 1, 0] [(0, .ref hM), (1, .int (iI x1)), (2, .int (iI (-1))), (3, .int (iI 0))] rfl ?_
      obtain ⟨n9, hv⟩ := hv
      exact L_22 thr_1 z x1 n9 (-1) 0 hv
    · refine V_iconst hc dX5_keyAt_16 ?_
      exact V_iret hc hr thr_1 hv rfl dX5_keyAt_17
  refine V_lv [0, 1] [(0, .ref hM), (1, .int (iI x1))] rfl ?_
  unfold wp_X5_keyAt at hv
  refine V_aload_n hc dX5_keyAt_0 0 rfl ?_
  refine V_iload_n hc dX5_keyAt_1 1 rfl ?_
  refine V_if_ge (tgt := 9) hc dX5_keyAt_2 (by decide) hv (fun hv => ?_) (fun hv => ?_)
  · refine V_iconst hc dX5_keyAt_9 ?_
    exact C_10 thr z x1 0 hv
  · refine V_iconst hc dX5_keyAt_5 ?_
    refine V_goto (tgt := 10) hc dX5_keyAt_6 (by decide) ?_
    exact C_10 thr z x1 1 hv
