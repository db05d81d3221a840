/-! refusesAny, refuses -/
abbrev rm_L_refusesAny : Room := { frames := 9, cells := 67, slots := 402, locals := 224 }
set_option maxHeartbeats 16000000 in
theorem lm_refusesAny {l : Launch} (hl0 : l.stackTraces = false) {D : va_G} {t : Nat → ClassId} {hB : Nat} {σ : aW} {ws0 : va_W} (hCW : CW t hB ws0 σ) (hI : ivE σ) (htx : σ.2.2.2 = []) {x : Int} (hx : 0 ≤ x ∧ x ≤ 2147483647) : MWi l D t yL_refusesAny wsL_refusesAny rm_L_refusesAny [.ref hB, .int (iI x)] ws0 idW (po_L t hB (fun r σ1 => r = 1 ∧ σ1 = σ)) 67 402 := by
  refine M_ofgz (cc := cL_refusesAny) (nL := 5) (by decide) rfl (Nat.le_of_ble_eq_true rfl) ?_
  intro p e s m args below meth c A hc hG hr
  have TAIL : ∀ (w : va_W), CW t hB w σ → V p l e rm_L_refusesAny s m args below meth c D A 5 64 384 (MQ below (QI D A idW (po_L t hB (fun r σ1 => r = 1 ∧ σ1 = σ))) args s 67 402 A) 567 [(0, .ref hB)] [] w := by
    intro w hW
    rcases hI.R with h0 | h1
    · have hb9 := reb_0 h0
      refine V_aload_n hc dL_refusesAny_567 0 rfl ?_
      refine V_iconst hc dL_refusesAny_568 ?_
      refine V_fd (As := [.int (iI 0)]) hc (fc_rebuild hl0 hW hI (by decide)) (fun j h9 => h9.2.1 ⟨by decide, by decide⟩) (ab_reb σ.1 0) σ (fun r σ2 h9 => ⟨h9.2.1, h9.2.2⟩) rfl gL_refusesAny_X4_rebuild rfl ⟨rfl, rfl⟩ ok_X4_rebuild ⟨Nat.le_of_ble_eq_true rfl, Nat.le_of_ble_eq_true rfl⟩ (Nat.le_of_ble_eq_true rfl) dL_refusesAny_569 ⟨Nat.le_of_ble_eq_true rfl, Nat.le_of_ble_eq_true rfl⟩ (fun w1 hW1 => ?_)
      refine V_if_le (tgt := 590) (X := True) (Y := False) hc dL_refusesAny_572 (by decide) ⟨by omega, fun _ => trivial, fun h => h (by omega)⟩ (fun _ => ?_) (fun h => h.elim)
      refine V_aload_n hc dL_refusesAny_590 0 rfl ?_
      refine V_iconst hc dL_refusesAny_591 ?_
      refine V_iconst hc dL_refusesAny_592 ?_
      refine V_iconst hc dL_refusesAny_593 ?_
      refine V_lc (As := [.ref hB, .int (iI 3), .int (iI 0), .int (iI 0)]) (hh := [(0, 158, 159, 51), (0, 158, 164, 53), (0, 158, 169, 55)]) hc hG (lc_call_3 hl0 hW1 hI (by decide) (by decide)) (-12) σ (dr_abandon h0) rfl gL_refusesAny_L_call rfl ⟨rfl, rfl⟩ ok_L_call ⟨Nat.le_of_ble_eq_true rfl, Nat.le_of_ble_eq_true rfl⟩ (Nat.le_of_ble_eq_true rfl) dL_refusesAny_594 ⟨Nat.le_of_ble_eq_true rfl, Nat.le_of_ble_eq_true rfl⟩ (fun w2 hW2 => ?_)
      refine V_bipush hc dL_refusesAny_597 (by decide) ?_
      refine V_icmp_ne (tgt := 606) (X := False) (Y := True) hc dL_refusesAny_599 (by decide) ⟨by decide, by decide, fun h => absurd h (by decide), fun _ => trivial⟩ (fun h => h.elim) (fun _ => ?_)
      refine V_iconst hc dL_refusesAny_602 ?_
      refine V_goto (tgt := 607) hc dL_refusesAny_603 (by decide) ?_
      refine V_widen (k1 := 67) (n1 := 402) (Nat.le_of_ble_eq_true rfl) (Nat.le_of_ble_eq_true rfl) ?_
      exact V_zret hc hr w2 ⟨Or.inr rfl, σ, ⟨rfl, rfl⟩, hW2⟩ rfl dL_refusesAny_607
    · have hb9 := reb_1 h1
      refine V_aload_n hc dL_refusesAny_567 0 rfl ?_
      refine V_iconst hc dL_refusesAny_568 ?_
      refine V_fd (As := [.int (iI 0)]) hc (fc_rebuild hl0 hW hI (by decide)) (fun j h9 => h9.2.1 ⟨by decide, by decide⟩) (ab_reb σ.1 0) σ (fun r σ2 h9 => ⟨h9.2.1, h9.2.2⟩) rfl gL_refusesAny_X4_rebuild rfl ⟨rfl, rfl⟩ ok_X4_rebuild ⟨Nat.le_of_ble_eq_true rfl, Nat.le_of_ble_eq_true rfl⟩ (Nat.le_of_ble_eq_true rfl) dL_refusesAny_569 ⟨Nat.le_of_ble_eq_true rfl, Nat.le_of_ble_eq_true rfl⟩ (fun w1 hW1 => ?_)
      refine V_if_le (tgt := 590) (X := False) (Y := True) hc dL_refusesAny_572 (by decide) ⟨by omega, fun h => absurd h (by omega), fun _ => trivial⟩ (fun h => h.elim) (fun _ => ?_)
      refine V_aload_n hc dL_refusesAny_575 0 rfl ?_
      refine V_iconst hc dL_refusesAny_576 ?_
      refine V_iconst hc dL_refusesAny_577 ?_
      refine V_iconst hc dL_refusesAny_578 ?_
      refine V_lc (As := [.ref hB, .int (iI 2), .int (iI 0), .int (iI 0)]) (hh := [(0, 158, 159, 51), (0, 158, 164, 53), (0, 158, 169, 55)]) hc hG (lc_call_2 hl0 hW1 hI (by decide) (by decide)) (-12) σ (dr_begin h1) rfl gL_refusesAny_L_call rfl ⟨rfl, rfl⟩ ok_L_call ⟨Nat.le_of_ble_eq_true rfl, Nat.le_of_ble_eq_true rfl⟩ (Nat.le_of_ble_eq_true rfl) dL_refusesAny_579 ⟨Nat.le_of_ble_eq_true rfl, Nat.le_of_ble_eq_true rfl⟩ (fun w2 hW2 => ?_)
      refine V_bipush hc dL_refusesAny_582 (by decide) ?_
      refine V_icmp_ne (tgt := 606) (X := False) (Y := True) hc dL_refusesAny_584 (by decide) ⟨by decide, by decide, fun h => absurd h (by decide), fun _ => trivial⟩ (fun h => h.elim) (fun _ => ?_)
      refine V_goto (tgt := 602) hc dL_refusesAny_587 (by decide) ?_
      refine V_iconst hc dL_refusesAny_602 ?_
      refine V_goto (tgt := 607) hc dL_refusesAny_603 (by decide) ?_
      refine V_widen (k1 := 67) (n1 := 402) (Nat.le_of_ble_eq_true rfl) (Nat.le_of_ble_eq_true rfl) ?_
      exact V_zret hc hr w2 ⟨Or.inr rfl, σ, ⟨rfl, rfl⟩, hW2⟩ rfl dL_refusesAny_607
  refine V_lv [0, 1] [(0, .ref hB), (1, .int (iI x))] rfl ?_
  rcases (show x % 2 = 0 ∨ x % 2 = 1 by omega) with hx2 | hx2
  · refine V_iload_n hc dL_refusesAny_0 1 rfl ?_
    refine V_iconst hc dL_refusesAny_1 ?_
    refine V_irem (X := True) hc dL_refusesAny_2 ⟨by omega, by omega, trivial⟩ (fun _ => ?_)
    refine V_if_ne (tgt := 15) (X := False) (Y := True) hc dL_refusesAny_3 (by decide) ⟨by omega, fun h => absurd h (by omega), fun _ => trivial⟩ (fun h => h.elim) (fun _ => ?_)
    refine V_iconst hc dL_refusesAny_6 ?_
    refine V_iload_n hc dL_refusesAny_7 1 rfl ?_
    refine V_bipush hc dL_refusesAny_8 (by decide) ?_
    refine V_irem (X := True) hc dL_refusesAny_10 ⟨by omega, by omega, trivial⟩ (fun _ => ?_)
    refine V_isub hc dL_refusesAny_11 ?_
    refine V_goto (tgt := 23) hc dL_refusesAny_12 (by decide) ?_
    refine V_istore_n hc dL_refusesAny_23 [(2, .int (iI ((-1) - (x % 99)))), (0, .ref hB), (1, .int (iI x))] (Nat.le_of_ble_eq_true rfl) rfl ?_
    refine V_iconst hc dL_refusesAny_24 ?_
    refine V_iload_n hc dL_refusesAny_25 2 rfl ?_
    refine V_bipush hc dL_refusesAny_26 (by decide) ?_
    refine V_irem (X := True) hc dL_refusesAny_28 ⟨by omega, by omega, trivial⟩ (fun _ => ?_)
    refine V_isub hc dL_refusesAny_29 ?_
    refine V_istore_n hc dL_refusesAny_30 [(3, .int (iI ((-1) - (x % 99)))), (2, .int (iI ((-1) - (x % 99)))), (0, .ref hB), (1, .int (iI x))] (Nat.le_of_ble_eq_true rfl) rfl ?_
    refine V_aload_n hc dL_refusesAny_31 2 rfl ?_
    refine V_iconst hc dL_refusesAny_32 ?_
    refine V_iload_n hc dL_refusesAny_33 1 rfl ?_
    refine V_iconst hc dL_refusesAny_34 ?_
    refine V_lc (As := [.ref hB, .int (iI 0), .int (iI ((-1) - (x % 99))), .int (iI 0)]) (hh := [(0, 158, 159, 51), (0, 158, 164, 53), (0, 158, 169, 55)]) hc hG (lc_call_0 hl0 hCW hI (by omega) (by decide)) (-11) σ (dr_add (by omega)) rfl gL_refusesAny_L_call rfl ⟨rfl, rfl⟩ ok_L_call ⟨Nat.le_of_ble_eq_true rfl, Nat.le_of_ble_eq_true rfl⟩ (Nat.le_of_ble_eq_true rfl) dL_refusesAny_35 ⟨Nat.le_of_ble_eq_true rfl, Nat.le_of_ble_eq_true rfl⟩ (fun w1 hW1 => ?_)
    refine V_bipush hc dL_refusesAny_38 (by decide) ?_
    refine V_icmp_ne (tgt := 222) (X := False) (Y := True) hc dL_refusesAny_40 (by decide) ⟨by decide, by decide, fun h => absurd h (by decide), fun _ => trivial⟩ (fun h => h.elim) (fun _ => ?_)
    refine V_aload_n hc dL_refusesAny_43 2 rfl ?_
    refine V_iconst hc dL_refusesAny_44 ?_
    refine V_iload_n hc dL_refusesAny_45 1 rfl ?_
    refine V_iconst hc dL_refusesAny_46 ?_
    refine V_lc (As := [.ref hB, .int (iI 1), .int (iI ((-1) - (x % 99))), .int (iI 0)]) (hh := [(0, 158, 159, 51), (0, 158, 164, 53), (0, 158, 169, 55)]) hc hG (lc_call_1 hl0 hW1 hI (by omega) (by decide)) (-11) σ (dr1 (fun v s q => by have h8 := q.1; omega)) rfl gL_refusesAny_L_call rfl ⟨rfl, rfl⟩ ok_L_call ⟨Nat.le_of_ble_eq_true rfl, Nat.le_of_ble_eq_true rfl⟩ (Nat.le_of_ble_eq_true rfl) dL_refusesAny_47 ⟨Nat.le_of_ble_eq_true rfl, Nat.le_of_ble_eq_true rfl⟩ (fun w2 hW2 => ?_)
    refine V_bipush hc dL_refusesAny_50 (by decide) ?_
    refine V_icmp_ne (tgt := 222) (X := False) (Y := True) hc dL_refusesAny_52 (by decide) ⟨by decide, by decide, fun h => absurd h (by decide), fun _ => trivial⟩ (fun h => h.elim) (fun _ => ?_)
    refine V_aload_n hc dL_refusesAny_55 2 rfl ?_
    refine V_iconst hc dL_refusesAny_56 ?_
    refine V_iload_n hc dL_refusesAny_57 3 rfl ?_
    refine V_iconst hc dL_refusesAny_58 ?_
    refine V_irem (X := True) hc dL_refusesAny_59 ⟨by omega, by omega, trivial⟩ (fun _ => ?_)
    refine V_if_ne (tgt := 67) (X := False) (Y := True) hc dL_refusesAny_60 (by decide) ⟨by omega, fun h => absurd h (by omega), fun _ => trivial⟩ (fun h => h.elim) (fun _ => ?_)
    refine V_iconst hc dL_refusesAny_63 ?_
    refine V_goto (tgt := 68) hc dL_refusesAny_64 (by decide) ?_
    refine V_iconst hc dL_refusesAny_68 ?_
    refine V_lc (As := [.ref hB, .int (iI 4), .int (iI (-1)), .int (iI 5)]) (hh := [(0, 158, 159, 51), (0, 158, 164, 53), (0, 158, 169, 55)]) hc hG (lc_call_4 hl0 hW2 hI (by decide) (by decide)) (-10) σ (dr_setI (by omega)) rfl gL_refusesAny_L_call rfl ⟨rfl, rfl⟩ ok_L_call ⟨Nat.le_of_ble_eq_true rfl, Nat.le_of_ble_eq_true rfl⟩ (Nat.le_of_ble_eq_true rfl) dL_refusesAny_69 ⟨Nat.le_of_ble_eq_true rfl, Nat.le_of_ble_eq_true rfl⟩ (fun w3 hW3 => ?_)
    refine V_bipush hc dL_refusesAny_72 (by decide) ?_
    refine V_icmp_ne (tgt := 222) (X := False) (Y := True) hc dL_refusesAny_74 (by decide) ⟨by decide, by decide, fun h => absurd h (by decide), fun _ => trivial⟩ (fun h => h.elim) (fun _ => ?_)
    refine V_aload_n hc dL_refusesAny_77 2 rfl ?_
    refine V_iconst hc dL_refusesAny_78 ?_
    refine V_iconst hc dL_refusesAny_79 ?_
    refine V_bipush hc dL_refusesAny_80 (by decide) ?_
    refine V_lc (As := [.ref hB, .int (iI 4), .int (iI 0), .int (iI 9)]) (hh := [(0, 158, 159, 51), (0, 158, 164, 53), (0, 158, 169, 55)]) hc hG (lc_call_4 hl0 hW3 hI (by decide) (by decide)) (-11) σ (dr_setV (by decide) (fun q => by have h8 := q; unfold ab_val at h8; omega)) rfl gL_refusesAny_L_call rfl ⟨rfl, rfl⟩ ok_L_call ⟨Nat.le_of_ble_eq_true rfl, Nat.le_of_ble_eq_true rfl⟩ (Nat.le_of_ble_eq_true rfl) dL_refusesAny_82 ⟨Nat.le_of_ble_eq_true rfl, Nat.le_of_ble_eq_true rfl⟩ (fun w4 hW4 => ?_)
    refine V_bipush hc dL_refusesAny_85 (by decide) ?_
    refine V_icmp_ne (tgt := 222) (X := False) (Y := True) hc dL_refusesAny_87 (by decide) ⟨by decide, by decide, fun h => absurd h (by decide), fun _ => trivial⟩ (fun h => h.elim) (fun _ => ?_)
    refine V_aload_n hc dL_refusesAny_90 2 rfl ?_
    refine V_iconst hc dL_refusesAny_91 ?_
    refine V_iconst hc dL_refusesAny_92 ?_
    refine V_bipush hc dL_refusesAny_93 (by decide) ?_
    refine V_lc (As := [.ref hB, .int (iI 4), .int (iI 0), .int (iI 101)]) (hh := [(0, 158, 159, 51), (0, 158, 164, 53), (0, 158, 169, 55)]) hc hG (lc_call_4 hl0 hW4 hI (by decide) (by decide)) (-11) σ (dr_setV (by decide) (fun q => by have h8 := q; unfold ab_val at h8; omega)) rfl gL_refusesAny_L_call rfl ⟨rfl, rfl⟩ ok_L_call ⟨Nat.le_of_ble_eq_true rfl, Nat.le_of_ble_eq_true rfl⟩ (Nat.le_of_ble_eq_true rfl) dL_refusesAny_95 ⟨Nat.le_of_ble_eq_true rfl, Nat.le_of_ble_eq_true rfl⟩ (fun w5 hW5 => ?_)
    refine V_bipush hc dL_refusesAny_98 (by decide) ?_
    refine V_icmp_ne (tgt := 222) (X := False) (Y := True) hc dL_refusesAny_100 (by decide) ⟨by decide, by decide, fun h => absurd h (by decide), fun _ => trivial⟩ (fun h => h.elim) (fun _ => ?_)
    refine V_aload_n hc dL_refusesAny_103 2 rfl ?_
    refine V_iconst hc dL_refusesAny_104 ?_
    refine V_iconst hc dL_refusesAny_105 ?_
    refine V_iconst hc dL_refusesAny_106 ?_
    refine V_lc (As := [.ref hB, .int (iI 4), .int (iI 1), .int (iI 2)]) (hh := [(0, 158, 159, 51), (0, 158, 164, 53), (0, 158, 169, 55)]) hc hG (lc_call_4 hl0 hW5 hI (by decide) (by decide)) (-11) σ (dr_setV (by decide) (fun q => by have h8 := q; unfold ab_val at h8; omega)) rfl gL_refusesAny_L_call rfl ⟨rfl, rfl⟩ ok_L_call ⟨Nat.le_of_ble_eq_true rfl, Nat.le_of_ble_eq_true rfl⟩ (Nat.le_of_ble_eq_true rfl) dL_refusesAny_107 ⟨Nat.le_of_ble_eq_true rfl, Nat.le_of_ble_eq_true rfl⟩ (fun w6 hW6 => ?_)
    refine V_bipush hc dL_refusesAny_110 (by decide) ?_
    refine V_icmp_ne (tgt := 222) (X := False) (Y := True) hc dL_refusesAny_112 (by decide) ⟨by decide, by decide, fun h => absurd h (by decide), fun _ => trivial⟩ (fun h => h.elim) (fun _ => ?_)
    refine V_aload_n hc dL_refusesAny_115 2 rfl ?_
    refine V_iconst hc dL_refusesAny_116 ?_
    refine V_iconst hc dL_refusesAny_117 ?_
    refine V_bipush hc dL_refusesAny_118 (by decide) ?_
    refine V_lc (As := [.ref hB, .int (iI 4), .int (iI 1), .int (iI 41)]) (hh := [(0, 158, 159, 51), (0, 158, 164, 53), (0, 158, 169, 55)]) hc hG (lc_call_4 hl0 hW6 hI (by decide) (by decide)) (-11) σ (dr_setV (by decide) (fun q => by have h8 := q; unfold ab_val at h8; omega)) rfl gL_refusesAny_L_call rfl ⟨rfl, rfl⟩ ok_L_call ⟨Nat.le_of_ble_eq_true rfl, Nat.le_of_ble_eq_true rfl⟩ (Nat.le_of_ble_eq_true rfl) dL_refusesAny_120 ⟨Nat.le_of_ble_eq_true rfl, Nat.le_of_ble_eq_true rfl⟩ (fun w7 hW7 => ?_)
    refine V_bipush hc dL_refusesAny_123 (by decide) ?_
    refine V_icmp_ne (tgt := 222) (X := False) (Y := True) hc dL_refusesAny_125 (by decide) ⟨by decide, by decide, fun h => absurd h (by decide), fun _ => trivial⟩ (fun h => h.elim) (fun _ => ?_)
    refine V_aload_n hc dL_refusesAny_128 2 rfl ?_
    refine V_iconst hc dL_refusesAny_129 ?_
    refine V_iconst hc dL_refusesAny_130 ?_
    refine V_iconst hc dL_refusesAny_131 ?_
    refine V_lc (As := [.ref hB, .int (iI 4), .int (iI 2), .int (iI 0)]) (hh := [(0, 158, 159, 51), (0, 158, 164, 53), (0, 158, 169, 55)]) hc hG (lc_call_4 hl0 hW7 hI (by decide) (by decide)) (-11) σ (dr_setV (by decide) (fun q => by have h8 := q; unfold ab_val at h8; omega)) rfl gL_refusesAny_L_call rfl ⟨rfl, rfl⟩ ok_L_call ⟨Nat.le_of_ble_eq_true rfl, Nat.le_of_ble_eq_true rfl⟩ (Nat.le_of_ble_eq_true rfl) dL_refusesAny_132 ⟨Nat.le_of_ble_eq_true rfl, Nat.le_of_ble_eq_true rfl⟩ (fun w8 hW8 => ?_)
    refine V_bipush hc dL_refusesAny_135 (by decide) ?_
    refine V_icmp_ne (tgt := 222) (X := False) (Y := True) hc dL_refusesAny_137 (by decide) ⟨by decide, by decide, fun h => absurd h (by decide), fun _ => trivial⟩ (fun h => h.elim) (fun _ => ?_)
    refine V_aload_n hc dL_refusesAny_140 2 rfl ?_
    refine V_iconst hc dL_refusesAny_141 ?_
    refine V_iconst hc dL_refusesAny_142 ?_
    refine V_bipush hc dL_refusesAny_143 (by decide) ?_
    refine V_lc (As := [.ref hB, .int (iI 4), .int (iI 2), .int (iI 9)]) (hh := [(0, 158, 159, 51), (0, 158, 164, 53), (0, 158, 169, 55)]) hc hG (lc_call_4 hl0 hW8 hI (by decide) (by decide)) (-11) σ (dr_setV (by decide) (fun q => by have h8 := q; unfold ab_val at h8; omega)) rfl gL_refusesAny_L_call rfl ⟨rfl, rfl⟩ ok_L_call ⟨Nat.le_of_ble_eq_true rfl, Nat.le_of_ble_eq_true rfl⟩ (Nat.le_of_ble_eq_true rfl) dL_refusesAny_145 ⟨Nat.le_of_ble_eq_true rfl, Nat.le_of_ble_eq_true rfl⟩ (fun w9 hW9 => ?_)
    refine V_bipush hc dL_refusesAny_148 (by decide) ?_
    refine V_icmp_ne (tgt := 222) (X := False) (Y := True) hc dL_refusesAny_150 (by decide) ⟨by decide, by decide, fun h => absurd h (by decide), fun _ => trivial⟩ (fun h => h.elim) (fun _ => ?_)
    refine V_aload_n hc dL_refusesAny_153 2 rfl ?_
    refine V_iconst hc dL_refusesAny_154 ?_
    refine V_bipush hc dL_refusesAny_155 (by decide) ?_
    refine V_iconst hc dL_refusesAny_157 ?_
    refine V_lc (As := [.ref hB, .int (iI 5), .int (iI 32), .int (iI 0)]) (hh := [(0, 158, 159, 51), (0, 158, 164, 53), (0, 158, 169, 55)]) hc hG (lc_call_5 hl0 hW9 hI (by decide) (by decide)) (-11) σ (dr_append (by omega)) rfl gL_refusesAny_L_call rfl ⟨rfl, rfl⟩ ok_L_call ⟨Nat.le_of_ble_eq_true rfl, Nat.le_of_ble_eq_true rfl⟩ (Nat.le_of_ble_eq_true rfl) dL_refusesAny_158 ⟨Nat.le_of_ble_eq_true rfl, Nat.le_of_ble_eq_true rfl⟩ (fun w10 hW10 => ?_)
    refine V_bipush hc dL_refusesAny_161 (by decide) ?_
    refine V_icmp_ne (tgt := 222) (X := False) (Y := True) hc dL_refusesAny_163 (by decide) ⟨by decide, by decide, fun h => absurd h (by decide), fun _ => trivial⟩ (fun h => h.elim) (fun _ => ?_)
    refine V_aload_n hc dL_refusesAny_166 2 rfl ?_
    refine V_iconst hc dL_refusesAny_167 ?_
    refine V_bipush hc dL_refusesAny_168 (by decide) ?_
    refine V_iconst hc dL_refusesAny_170 ?_
    refine V_lc (As := [.ref hB, .int (iI 5), .int (iI 127), .int (iI 0)]) (hh := [(0, 158, 159, 51), (0, 158, 164, 53), (0, 158, 169, 55)]) hc hG (lc_call_5 hl0 hW10 hI (by decide) (by decide)) (-11) σ (dr_append (by omega)) rfl gL_refusesAny_L_call rfl ⟨rfl, rfl⟩ ok_L_call ⟨Nat.le_of_ble_eq_true rfl, Nat.le_of_ble_eq_true rfl⟩ (Nat.le_of_ble_eq_true rfl) dL_refusesAny_171 ⟨Nat.le_of_ble_eq_true rfl, Nat.le_of_ble_eq_true rfl⟩ (fun w11 hW11 => ?_)
    refine V_bipush hc dL_refusesAny_174 (by decide) ?_
    refine V_icmp_ne (tgt := 222) (X := False) (Y := True) hc dL_refusesAny_176 (by decide) ⟨by decide, by decide, fun h => absurd h (by decide), fun _ => trivial⟩ (fun h => h.elim) (fun _ => ?_)
    refine V_aload_n hc dL_refusesAny_179 2 rfl ?_
    refine V_bipush hc dL_refusesAny_180 (by decide) ?_
    refine V_iconst hc dL_refusesAny_182 ?_
    refine V_iconst hc dL_refusesAny_183 ?_
    refine V_lc (As := [.ref hB, .int (iI 6), .int (iI 0), .int (iI 0)]) (hh := [(0, 158, 159, 51), (0, 158, 164, 53), (0, 158, 169, 55)]) hc hG (lc_call_6 hl0 hW11 hI (by decide) (by decide)) (-11) σ (dr_execute htx) rfl gL_refusesAny_L_call rfl ⟨rfl, rfl⟩ ok_L_call ⟨Nat.le_of_ble_eq_true rfl, Nat.le_of_ble_eq_true rfl⟩ (Nat.le_of_ble_eq_true rfl) dL_refusesAny_184 ⟨Nat.le_of_ble_eq_true rfl, Nat.le_of_ble_eq_true rfl⟩ (fun w12 hW12 => ?_)
    refine V_bipush hc dL_refusesAny_187 (by decide) ?_
    refine V_icmp_ne (tgt := 222) (X := False) (Y := True) hc dL_refusesAny_189 (by decide) ⟨by decide, by decide, fun h => absurd h (by decide), fun _ => trivial⟩ (fun h => h.elim) (fun _ => ?_)
    refine V_aload_n hc dL_refusesAny_192 2 rfl ?_
    refine V_bipush hc dL_refusesAny_193 (by decide) ?_
    refine V_iconst hc dL_refusesAny_195 ?_
    refine V_iconst hc dL_refusesAny_196 ?_
    refine V_lc (As := [.ref hB, .int (iI 8), .int (iI 2), .int (iI 0)]) (hh := [(0, 158, 159, 51), (0, 158, 164, 53), (0, 158, 169, 55)]) hc hG (lc_call_8 hl0 hW12 hI (by decide) (by decide)) (-11) σ (dr1 (fun v s q => by have h8 := q.1; omega)) rfl gL_refusesAny_L_call rfl ⟨rfl, rfl⟩ ok_L_call ⟨Nat.le_of_ble_eq_true rfl, Nat.le_of_ble_eq_true rfl⟩ (Nat.le_of_ble_eq_true rfl) dL_refusesAny_197 ⟨Nat.le_of_ble_eq_true rfl, Nat.le_of_ble_eq_true rfl⟩ (fun w13 hW13 => ?_)
    refine V_bipush hc dL_refusesAny_200 (by decide) ?_
    refine V_icmp_ne (tgt := 222) (X := False) (Y := True) hc dL_refusesAny_202 (by decide) ⟨by decide, by decide, fun h => absurd h (by decide), fun _ => trivial⟩ (fun h => h.elim) (fun _ => ?_)
    refine V_aload_n hc dL_refusesAny_205 2 rfl ?_
    refine V_bipush hc dL_refusesAny_206 (by decide) ?_
    refine V_iload_n hc dL_refusesAny_208 0 rfl ?_
    refine V_iconst hc dL_refusesAny_209 ?_
    refine V_lc (As := [.ref hB, .int (iI 9), .int (iI ((-1) - (x % 99))), .int (iI 0)]) (hh := [(0, 158, 159, 51), (0, 158, 164, 53), (0, 158, 169, 55)]) hc hG (lc_call_9 hl0 hW13 hI (by omega) (by decide)) (-11) σ (dr_goBackA (by omega)) rfl gL_refusesAny_L_call rfl ⟨rfl, rfl⟩ ok_L_call ⟨Nat.le_of_ble_eq_true rfl, Nat.le_of_ble_eq_true rfl⟩ (Nat.le_of_ble_eq_true rfl) dL_refusesAny_210 ⟨Nat.le_of_ble_eq_true rfl, Nat.le_of_ble_eq_true rfl⟩ (fun w14 hW14 => ?_)
    refine V_bipush hc dL_refusesAny_213 (by decide) ?_
    refine V_icmp_ne (tgt := 222) (X := False) (Y := True) hc dL_refusesAny_215 (by decide) ⟨by decide, by decide, fun h => absurd h (by decide), fun _ => trivial⟩ (fun h => h.elim) (fun _ => ?_)
    refine V_iconst hc dL_refusesAny_218 ?_
    refine V_goto (tgt := 223) hc dL_refusesAny_219 (by decide) ?_
    refine V_istore hc dL_refusesAny_223 [(4, .int (iI 1)), (3, .int (iI ((-1) - (x % 99)))), (2, .int (iI ((-1) - (x % 99)))), (0, .ref hB), (1, .int (iI x))] (Nat.le_of_ble_eq_true rfl) rfl ?_
    refine V_iload hc dL_refusesAny_225 0 rfl ?_
    refine V_if_eq (tgt := 484) (X := False) (Y := True) hc dL_refusesAny_227 (by decide) ⟨by decide, fun h => absurd h (by decide), fun _ => trivial⟩ (fun h => h.elim) (fun _ => ?_)
    refine V_aload_n hc dL_refusesAny_230 3 rfl ?_
    refine V_bipush hc dL_refusesAny_231 (by decide) ?_
    refine V_iload_n hc dL_refusesAny_233 2 rfl ?_
    refine V_iconst hc dL_refusesAny_234 ?_
    refine V_lc (As := [.ref hB, .int (iI 10), .int (iI ((-1) - (x % 99))), .int (iI 0)]) (hh := [(0, 158, 159, 51), (0, 158, 164, 53), (0, 158, 169, 55)]) hc hG (lc_call_10 hl0 hW14 hI (by omega) (by decide)) (-11) σ (dr1 (fun v s q => by have h8 := q.1; omega)) rfl gL_refusesAny_L_call rfl ⟨rfl, rfl⟩ ok_L_call ⟨Nat.le_of_ble_eq_true rfl, Nat.le_of_ble_eq_true rfl⟩ (Nat.le_of_ble_eq_true rfl) dL_refusesAny_235 ⟨Nat.le_of_ble_eq_true rfl, Nat.le_of_ble_eq_true rfl⟩ (fun w15 hW15 => ?_)
    refine V_bipush hc dL_refusesAny_238 (by decide) ?_
    refine V_icmp_ne (tgt := 484) (X := False) (Y := True) hc dL_refusesAny_240 (by decide) ⟨by decide, by decide, fun h => absurd h (by decide), fun _ => trivial⟩ (fun h => h.elim) (fun _ => ?_)
    refine V_aload_n hc dL_refusesAny_243 3 rfl ?_
    refine V_bipush hc dL_refusesAny_244 (by decide) ?_
    refine V_iload_n hc dL_refusesAny_246 2 rfl ?_
    refine V_iconst hc dL_refusesAny_247 ?_
    refine V_lc (As := [.ref hB, .int (iI 11), .int (iI ((-1) - (x % 99))), .int (iI 0)]) (hh := [(0, 158, 159, 51), (0, 158, 164, 53), (0, 158, 169, 55)]) hc hG (lc_call_11 hl0 hW15 hI (by omega) (by decide)) (-11) σ (dr1 (fun v s q => by have h8 := q.1; omega)) rfl gL_refusesAny_L_call rfl ⟨rfl, rfl⟩ ok_L_call ⟨Nat.le_of_ble_eq_true rfl, Nat.le_of_ble_eq_true rfl⟩ (Nat.le_of_ble_eq_true rfl) dL_refusesAny_248 ⟨Nat.le_of_ble_eq_true rfl, Nat.le_of_ble_eq_true rfl⟩ (fun w16 hW16 => ?_)
    refine V_bipush hc dL_refusesAny_251 (by decide) ?_
    refine V_icmp_ne (tgt := 484) (X := False) (Y := True) hc dL_refusesAny_253 (by decide) ⟨by decide, by decide, fun h => absurd h (by decide), fun _ => trivial⟩ (fun h => h.elim) (fun _ => ?_)
    refine V_aload_n hc dL_refusesAny_256 3 rfl ?_
    refine V_bipush hc dL_refusesAny_257 (by decide) ?_
    refine V_iconst hc dL_refusesAny_259 ?_
    refine V_iload_n hc dL_refusesAny_260 4 rfl ?_
    refine V_iconst hc dL_refusesAny_261 ?_
    refine V_irem (X := True) hc dL_refusesAny_262 ⟨by omega, by omega, trivial⟩ (fun _ => ?_)
    refine V_if_ne (tgt := 270) (X := False) (Y := True) hc dL_refusesAny_263 (by decide) ⟨by omega, fun h => absurd h (by omega), fun _ => trivial⟩ (fun h => h.elim) (fun _ => ?_)
    refine V_iconst hc dL_refusesAny_266 ?_
    refine V_goto (tgt := 271) hc dL_refusesAny_267 (by decide) ?_
    refine V_lc (As := [.ref hB, .int (iI 11), .int (iI 0), .int (iI (-1))]) (hh := [(0, 158, 159, 51), (0, 158, 164, 53), (0, 158, 169, 55)]) hc hG (lc_call_11 hl0 hW16 hI (by decide) (by decide)) (-11) σ (dr1 (fun v s q => by have h8 := q.1; omega)) rfl gL_refusesAny_L_call rfl ⟨rfl, rfl⟩ ok_L_call ⟨Nat.le_of_ble_eq_true rfl, Nat.le_of_ble_eq_true rfl⟩ (Nat.le_of_ble_eq_true rfl) dL_refusesAny_271 ⟨Nat.le_of_ble_eq_true rfl, Nat.le_of_ble_eq_true rfl⟩ (fun w17 hW17 => ?_)
    refine V_bipush hc dL_refusesAny_274 (by decide) ?_
    refine V_icmp_ne (tgt := 484) (X := False) (Y := True) hc dL_refusesAny_276 (by decide) ⟨by decide, by decide, fun h => absurd h (by decide), fun _ => trivial⟩ (fun h => h.elim) (fun _ => ?_)
    refine V_aload_n hc dL_refusesAny_279 3 rfl ?_
    refine V_iconst hc dL_refusesAny_280 ?_
    refine V_iload_n hc dL_refusesAny_281 2 rfl ?_
    refine V_iconst hc dL_refusesAny_282 ?_
    refine V_lc (As := [.ref hB, .int (iI 0), .int (iI ((-1) - (x % 99))), .int (iI 0)]) (hh := [(0, 178, 179, 51), (0, 178, 184, 53)]) hc hG (lc_ask_0 hl0 hW17 hI (by omega) (by decide)) (-11) σ (dr1 (fun v s q => by have h8 := q.1; omega)) rfl gL_refusesAny_L_ask rfl ⟨rfl, rfl⟩ ok_L_ask ⟨Nat.le_of_ble_eq_true rfl, Nat.le_of_ble_eq_true rfl⟩ (Nat.le_of_ble_eq_true rfl) dL_refusesAny_283 ⟨Nat.le_of_ble_eq_true rfl, Nat.le_of_ble_eq_true rfl⟩ (fun w18 hW18 => ?_)
    refine V_bipush hc dL_refusesAny_286 (by decide) ?_
    refine V_icmp_ne (tgt := 484) (X := False) (Y := True) hc dL_refusesAny_288 (by decide) ⟨by decide, by decide, fun h => absurd h (by decide), fun _ => trivial⟩ (fun h => h.elim) (fun _ => ?_)
    refine V_aload_n hc dL_refusesAny_291 3 rfl ?_
    refine V_iconst hc dL_refusesAny_292 ?_
    refine V_iload_n hc dL_refusesAny_293 1 rfl ?_
    refine V_iconst hc dL_refusesAny_294 ?_
    refine V_lc (As := [.ref hB, .int (iI 1), .int (iI ((-1) - (x % 99))), .int (iI 0)]) (hh := [(0, 178, 179, 51), (0, 178, 184, 53)]) hc hG (lc_ask_1 hl0 hW18 hI (by omega) (by decide)) (-11) σ (dr1 (fun v s q => by have h8 := q.1; omega)) rfl gL_refusesAny_L_ask rfl ⟨rfl, rfl⟩ ok_L_ask ⟨Nat.le_of_ble_eq_true rfl, Nat.le_of_ble_eq_true rfl⟩ (Nat.le_of_ble_eq_true rfl) dL_refusesAny_295 ⟨Nat.le_of_ble_eq_true rfl, Nat.le_of_ble_eq_true rfl⟩ (fun w19 hW19 => ?_)
    refine V_bipush hc dL_refusesAny_298 (by decide) ?_
    refine V_icmp_ne (tgt := 484) (X := False) (Y := True) hc dL_refusesAny_300 (by decide) ⟨by decide, by decide, fun h => absurd h (by decide), fun _ => trivial⟩ (fun h => h.elim) (fun _ => ?_)
    refine V_aload_n hc dL_refusesAny_303 3 rfl ?_
    refine V_iconst hc dL_refusesAny_304 ?_
    refine V_iload_n hc dL_refusesAny_305 1 rfl ?_
    refine V_iconst hc dL_refusesAny_306 ?_
    refine V_lc (As := [.ref hB, .int (iI 2), .int (iI ((-1) - (x % 99))), .int (iI 0)]) (hh := [(0, 178, 179, 51), (0, 178, 184, 53)]) hc hG (lc_ask_2_0 hl0 hW19 hI (by omega)) (-11) σ (dr1 (fun v s q => by have h8 := q.1; omega)) rfl gL_refusesAny_L_ask rfl ⟨rfl, rfl⟩ ok_L_ask ⟨Nat.le_of_ble_eq_true rfl, Nat.le_of_ble_eq_true rfl⟩ (Nat.le_of_ble_eq_true rfl) dL_refusesAny_307 ⟨Nat.le_of_ble_eq_true rfl, Nat.le_of_ble_eq_true rfl⟩ (fun w20 hW20 => ?_)
    refine V_bipush hc dL_refusesAny_310 (by decide) ?_
    refine V_icmp_ne (tgt := 484) (X := False) (Y := True) hc dL_refusesAny_312 (by decide) ⟨by decide, by decide, fun h => absurd h (by decide), fun _ => trivial⟩ (fun h => h.elim) (fun _ => ?_)
    refine V_aload_n hc dL_refusesAny_315 3 rfl ?_
    refine V_iconst hc dL_refusesAny_316 ?_
    refine V_iconst hc dL_refusesAny_317 ?_
    refine V_iload_n hc dL_refusesAny_318 4 rfl ?_
    refine V_iconst hc dL_refusesAny_319 ?_
    refine V_irem (X := True) hc dL_refusesAny_320 ⟨by omega, by omega, trivial⟩ (fun _ => ?_)
    refine V_if_ne (tgt := 328) (X := False) (Y := True) hc dL_refusesAny_321 (by decide) ⟨by omega, fun h => absurd h (by omega), fun _ => trivial⟩ (fun h => h.elim) (fun _ => ?_)
    refine V_iconst hc dL_refusesAny_324 ?_
    refine V_goto (tgt := 330) hc dL_refusesAny_325 (by decide) ?_
    refine V_lc (As := [.ref hB, .int (iI 2), .int (iI 0), .int (iI 5)]) (hh := [(0, 178, 179, 51), (0, 178, 184, 53)]) hc hG (lc_ask_2_5 hl0 hW20 hI (by decide)) (-11) σ (dr1 (fun v s q => by have h8 := q.1; omega)) rfl gL_refusesAny_L_ask rfl ⟨rfl, rfl⟩ ok_L_ask ⟨Nat.le_of_ble_eq_true rfl, Nat.le_of_ble_eq_true rfl⟩ (Nat.le_of_ble_eq_true rfl) dL_refusesAny_330 ⟨Nat.le_of_ble_eq_true rfl, Nat.le_of_ble_eq_true rfl⟩ (fun w21 hW21 => ?_)
    refine V_bipush hc dL_refusesAny_333 (by decide) ?_
    refine V_icmp_ne (tgt := 484) (X := False) (Y := True) hc dL_refusesAny_335 (by decide) ⟨by decide, by decide, fun h => absurd h (by decide), fun _ => trivial⟩ (fun h => h.elim) (fun _ => ?_)
    refine V_aload_n hc dL_refusesAny_338 3 rfl ?_
    refine V_iconst hc dL_refusesAny_339 ?_
    refine V_iconst hc dL_refusesAny_340 ?_
    refine V_iconst hc dL_refusesAny_341 ?_
    refine V_lc (As := [.ref hB, .int (iI 2), .int (iI 0), .int (iI (-1))]) (hh := [(0, 178, 179, 51), (0, 178, 184, 53)]) hc hG (lc_ask_2_m1 hl0 hW21 hI (by decide)) (-11) σ (dr1 (fun v s q => by have h8 := q.1; omega)) rfl gL_refusesAny_L_ask rfl ⟨rfl, rfl⟩ ok_L_ask ⟨Nat.le_of_ble_eq_true rfl, Nat.le_of_ble_eq_true rfl⟩ (Nat.le_of_ble_eq_true rfl) dL_refusesAny_342 ⟨Nat.le_of_ble_eq_true rfl, Nat.le_of_ble_eq_true rfl⟩ (fun w22 hW22 => ?_)
    refine V_bipush hc dL_refusesAny_345 (by decide) ?_
    refine V_icmp_ne (tgt := 484) (X := False) (Y := True) hc dL_refusesAny_347 (by decide) ⟨by decide, by decide, fun h => absurd h (by decide), fun _ => trivial⟩ (fun h => h.elim) (fun _ => ?_)
    refine V_aload_n hc dL_refusesAny_350 3 rfl ?_
    refine V_iconst hc dL_refusesAny_351 ?_
    refine V_iload_n hc dL_refusesAny_352 2 rfl ?_
    refine V_iconst hc dL_refusesAny_353 ?_
    refine V_lc (As := [.ref hB, .int (iI 3), .int (iI ((-1) - (x % 99))), .int (iI 0)]) (hh := [(0, 178, 179, 51), (0, 178, 184, 53)]) hc hG (lc_ask_3 hl0 hW22 hI (by omega) (by decide)) (-11) σ (dr1 (fun v s q => by have h8 := q.1; omega)) rfl gL_refusesAny_L_ask rfl ⟨rfl, rfl⟩ ok_L_ask ⟨Nat.le_of_ble_eq_true rfl, Nat.le_of_ble_eq_true rfl⟩ (Nat.le_of_ble_eq_true rfl) dL_refusesAny_354 ⟨Nat.le_of_ble_eq_true rfl, Nat.le_of_ble_eq_true rfl⟩ (fun w23 hW23 => ?_)
    refine V_bipush hc dL_refusesAny_357 (by decide) ?_
    refine V_icmp_ne (tgt := 484) (X := False) (Y := True) hc dL_refusesAny_359 (by decide) ⟨by decide, by decide, fun h => absurd h (by decide), fun _ => trivial⟩ (fun h => h.elim) (fun _ => ?_)
    refine V_aload_n hc dL_refusesAny_362 3 rfl ?_
    refine V_iconst hc dL_refusesAny_363 ?_
    refine V_iconst hc dL_refusesAny_364 ?_
    refine V_iload_n hc dL_refusesAny_365 1 rfl ?_
    refine V_lc (As := [.ref hB, .int (iI 3), .int (iI 0), .int (iI ((-1) - (x % 99)))]) (hh := [(0, 178, 179, 51), (0, 178, 184, 53)]) hc hG (lc_ask_3 hl0 hW23 hI (by decide) (by omega)) (-11) σ (dr1 (fun v s q => by have h8 := q.1; omega)) rfl gL_refusesAny_L_ask rfl ⟨rfl, rfl⟩ ok_L_ask ⟨Nat.le_of_ble_eq_true rfl, Nat.le_of_ble_eq_true rfl⟩ (Nat.le_of_ble_eq_true rfl) dL_refusesAny_366 ⟨Nat.le_of_ble_eq_true rfl, Nat.le_of_ble_eq_true rfl⟩ (fun w24 hW24 => ?_)
    refine V_bipush hc dL_refusesAny_369 (by decide) ?_
    refine V_icmp_ne (tgt := 484) (X := False) (Y := True) hc dL_refusesAny_371 (by decide) ⟨by decide, by decide, fun h => absurd h (by decide), fun _ => trivial⟩ (fun h => h.elim) (fun _ => ?_)
    refine V_aload_n hc dL_refusesAny_374 3 rfl ?_
    refine V_iconst hc dL_refusesAny_375 ?_
    refine V_iload_n hc dL_refusesAny_376 4 rfl ?_
    refine V_iconst hc dL_refusesAny_377 ?_
    refine V_irem (X := True) hc dL_refusesAny_378 ⟨by omega, by omega, trivial⟩ (fun _ => ?_)
    refine V_if_ne (tgt := 386) (X := False) (Y := True) hc dL_refusesAny_379 (by decide) ⟨by omega, fun h => absurd h (by omega), fun _ => trivial⟩ (fun h => h.elim) (fun _ => ?_)
    refine V_iconst hc dL_refusesAny_382 ?_
    refine V_goto (tgt := 388) hc dL_refusesAny_383 (by decide) ?_
    refine V_iconst hc dL_refusesAny_388 ?_
    refine V_lc (As := [.ref hB, .int (iI 4), .int (iI (-1)), .int (iI 0)]) (hh := [(0, 178, 179, 51), (0, 178, 184, 53)]) hc hG (lc_ask_4_0 hl0 hW24 hI (by decide)) (-11) σ (dr1 (fun v s q => by have h8 := q.1; omega)) rfl gL_refusesAny_L_ask rfl ⟨rfl, rfl⟩ ok_L_ask ⟨Nat.le_of_ble_eq_true rfl, Nat.le_of_ble_eq_true rfl⟩ (Nat.le_of_ble_eq_true rfl) dL_refusesAny_389 ⟨Nat.le_of_ble_eq_true rfl, Nat.le_of_ble_eq_true rfl⟩ (fun w25 hW25 => ?_)
    refine V_bipush hc dL_refusesAny_392 (by decide) ?_
    refine V_icmp_ne (tgt := 484) (X := False) (Y := True) hc dL_refusesAny_394 (by decide) ⟨by decide, by decide, fun h => absurd h (by decide), fun _ => trivial⟩ (fun h => h.elim) (fun _ => ?_)
    refine V_aload_n hc dL_refusesAny_397 3 rfl ?_
    refine V_iconst hc dL_refusesAny_398 ?_
    refine V_iload_n hc dL_refusesAny_399 4 rfl ?_
    refine V_iconst hc dL_refusesAny_400 ?_
    refine V_irem (X := True) hc dL_refusesAny_401 ⟨by omega, by omega, trivial⟩ (fun _ => ?_)
    refine V_if_ne (tgt := 409) (X := False) (Y := True) hc dL_refusesAny_402 (by decide) ⟨by omega, fun h => absurd h (by omega), fun _ => trivial⟩ (fun h => h.elim) (fun _ => ?_)
    refine V_iconst hc dL_refusesAny_405 ?_
    refine V_goto (tgt := 411) hc dL_refusesAny_406 (by decide) ?_
    refine V_iconst hc dL_refusesAny_411 ?_
    refine V_lc (As := [.ref hB, .int (iI 5), .int (iI (-1)), .int (iI 0)]) (hh := [(0, 178, 179, 51), (0, 178, 184, 53)]) hc hG (lc_ask_5 hl0 hW25 hI (by decide) (by decide)) (-11) σ (dr1 (fun v s q => by have h8 := q.1; omega)) rfl gL_refusesAny_L_ask rfl ⟨rfl, rfl⟩ ok_L_ask ⟨Nat.le_of_ble_eq_true rfl, Nat.le_of_ble_eq_true rfl⟩ (Nat.le_of_ble_eq_true rfl) dL_refusesAny_412 ⟨Nat.le_of_ble_eq_true rfl, Nat.le_of_ble_eq_true rfl⟩ (fun w26 hW26 => ?_)
    refine V_bipush hc dL_refusesAny_415 (by decide) ?_
    refine V_icmp_ne (tgt := 484) (X := False) (Y := True) hc dL_refusesAny_417 (by decide) ⟨by decide, by decide, fun h => absurd h (by decide), fun _ => trivial⟩ (fun h => h.elim) (fun _ => ?_)
    refine V_aload_n hc dL_refusesAny_420 3 rfl ?_
    refine V_bipush hc dL_refusesAny_421 (by decide) ?_
    refine V_iload_n hc dL_refusesAny_423 1 rfl ?_
    refine V_iconst hc dL_refusesAny_424 ?_
    refine V_lc (As := [.ref hB, .int (iI 6), .int (iI ((-1) - (x % 99))), .int (iI 0)]) (hh := [(0, 178, 179, 51), (0, 178, 184, 53)]) hc hG (lc_ask_6 hl0 hW26 hI (by omega) (by decide)) (-11) σ (dr1 (fun v s q => by have h8 := q.1; omega)) rfl gL_refusesAny_L_ask rfl ⟨rfl, rfl⟩ ok_L_ask ⟨Nat.le_of_ble_eq_true rfl, Nat.le_of_ble_eq_true rfl⟩ (Nat.le_of_ble_eq_true rfl) dL_refusesAny_425 ⟨Nat.le_of_ble_eq_true rfl, Nat.le_of_ble_eq_true rfl⟩ (fun w27 hW27 => ?_)
    refine V_bipush hc dL_refusesAny_428 (by decide) ?_
    refine V_icmp_ne (tgt := 484) (X := False) (Y := True) hc dL_refusesAny_430 (by decide) ⟨by decide, by decide, fun h => absurd h (by decide), fun _ => trivial⟩ (fun h => h.elim) (fun _ => ?_)
    refine V_aload_n hc dL_refusesAny_433 3 rfl ?_
    refine V_bipush hc dL_refusesAny_434 (by decide) ?_
    refine V_iload_n hc dL_refusesAny_436 4 rfl ?_
    refine V_iconst hc dL_refusesAny_437 ?_
    refine V_irem (X := True) hc dL_refusesAny_438 ⟨by omega, by omega, trivial⟩ (fun _ => ?_)
    refine V_if_ne (tgt := 446) (X := False) (Y := True) hc dL_refusesAny_439 (by decide) ⟨by omega, fun h => absurd h (by omega), fun _ => trivial⟩ (fun h => h.elim) (fun _ => ?_)
    refine V_iconst hc dL_refusesAny_442 ?_
    refine V_goto (tgt := 448) hc dL_refusesAny_443 (by decide) ?_
    refine V_iconst hc dL_refusesAny_448 ?_
    refine V_lc (As := [.ref hB, .int (iI 7), .int (iI (-1)), .int (iI 0)]) (hh := [(0, 178, 179, 51), (0, 178, 184, 53)]) hc hG (lc_ask_7 hl0 hW27 hI (by decide) (by decide)) (-11) σ (dr1 (fun v s q => by have h8 := q.1; omega)) rfl gL_refusesAny_L_ask rfl ⟨rfl, rfl⟩ ok_L_ask ⟨Nat.le_of_ble_eq_true rfl, Nat.le_of_ble_eq_true rfl⟩ (Nat.le_of_ble_eq_true rfl) dL_refusesAny_449 ⟨Nat.le_of_ble_eq_true rfl, Nat.le_of_ble_eq_true rfl⟩ (fun w28 hW28 => ?_)
    refine V_bipush hc dL_refusesAny_452 (by decide) ?_
    refine V_icmp_ne (tgt := 484) (X := False) (Y := True) hc dL_refusesAny_454 (by decide) ⟨by decide, by decide, fun h => absurd h (by decide), fun _ => trivial⟩ (fun h => h.elim) (fun _ => ?_)
    refine V_aload_n hc dL_refusesAny_457 3 rfl ?_
    refine V_bipush hc dL_refusesAny_458 (by decide) ?_
    refine V_iload_n hc dL_refusesAny_460 4 rfl ?_
    refine V_iconst hc dL_refusesAny_461 ?_
    refine V_irem (X := True) hc dL_refusesAny_462 ⟨by omega, by omega, trivial⟩ (fun _ => ?_)
    refine V_if_ne (tgt := 470) (X := False) (Y := True) hc dL_refusesAny_463 (by decide) ⟨by omega, fun h => absurd h (by omega), fun _ => trivial⟩ (fun h => h.elim) (fun _ => ?_)
    refine V_iconst hc dL_refusesAny_466 ?_
    refine V_goto (tgt := 471) hc dL_refusesAny_467 (by decide) ?_
    refine V_iconst hc dL_refusesAny_471 ?_
    refine V_lc (As := [.ref hB, .int (iI 8), .int (iI (-1)), .int (iI 0)]) (hh := [(0, 178, 179, 51), (0, 178, 184, 53)]) hc hG (lc_ask_8 hl0 hW28 hI (by decide) (by decide)) (-10) σ (dr2 (fun v s q => by have h8 := q.1; omega)) rfl gL_refusesAny_L_ask rfl ⟨rfl, rfl⟩ ok_L_ask ⟨Nat.le_of_ble_eq_true rfl, Nat.le_of_ble_eq_true rfl⟩ (Nat.le_of_ble_eq_true rfl) dL_refusesAny_472 ⟨Nat.le_of_ble_eq_true rfl, Nat.le_of_ble_eq_true rfl⟩ (fun w29 hW29 => ?_)
    refine V_bipush hc dL_refusesAny_475 (by decide) ?_
    refine V_icmp_ne (tgt := 484) (X := False) (Y := True) hc dL_refusesAny_477 (by decide) ⟨by decide, by decide, fun h => absurd h (by decide), fun _ => trivial⟩ (fun h => h.elim) (fun _ => ?_)
    refine V_iconst hc dL_refusesAny_480 ?_
    refine V_goto (tgt := 485) hc dL_refusesAny_481 (by decide) ?_
    refine V_istore hc dL_refusesAny_485 [(4, .int (iI 1)), (3, .int (iI ((-1) - (x % 99)))), (2, .int (iI ((-1) - (x % 99)))), (0, .ref hB), (1, .int (iI x))] (Nat.le_of_ble_eq_true rfl) rfl ?_
    refine V_iload hc dL_refusesAny_487 0 rfl ?_
    refine V_if_eq (tgt := 559) (X := False) (Y := True) hc dL_refusesAny_489 (by decide) ⟨by decide, fun h => absurd h (by decide), fun _ => trivial⟩ (fun h => h.elim) (fun _ => ?_)
    refine V_aload_n hc dL_refusesAny_492 3 rfl ?_
    refine V_bipush hc dL_refusesAny_493 (by decide) ?_
    refine V_iload_n hc dL_refusesAny_495 4 rfl ?_
    refine V_iconst hc dL_refusesAny_496 ?_
    refine V_irem (X := True) hc dL_refusesAny_497 ⟨by omega, by omega, trivial⟩ (fun _ => ?_)
    refine V_if_ne (tgt := 505) (X := False) (Y := True) hc dL_refusesAny_498 (by decide) ⟨by omega, fun h => absurd h (by omega), fun _ => trivial⟩ (fun h => h.elim) (fun _ => ?_)
    refine V_iconst hc dL_refusesAny_501 ?_
    refine V_goto (tgt := 507) hc dL_refusesAny_502 (by decide) ?_
    refine V_iconst hc dL_refusesAny_507 ?_
    refine V_lc (As := [.ref hB, .int (iI 9), .int (iI 0), .int (iI 0)]) (hh := [(0, 178, 179, 51), (0, 178, 184, 53)]) hc hG (lc_ask_9 hl0 hW29 hI (by decide) (by decide)) (-11) σ (dr1 (fun v s q => by have h8 := q.1; omega)) rfl gL_refusesAny_L_ask rfl ⟨rfl, rfl⟩ ok_L_ask ⟨Nat.le_of_ble_eq_true rfl, Nat.le_of_ble_eq_true rfl⟩ (Nat.le_of_ble_eq_true rfl) dL_refusesAny_508 ⟨Nat.le_of_ble_eq_true rfl, Nat.le_of_ble_eq_true rfl⟩ (fun w30 hW30 => ?_)
    refine V_bipush hc dL_refusesAny_511 (by decide) ?_
    refine V_icmp_ne (tgt := 559) (X := False) (Y := True) hc dL_refusesAny_513 (by decide) ⟨by decide, by decide, fun h => absurd h (by decide), fun _ => trivial⟩ (fun h => h.elim) (fun _ => ?_)
    refine V_aload_n hc dL_refusesAny_516 3 rfl ?_
    refine V_bipush hc dL_refusesAny_517 (by decide) ?_
    refine V_iload_n hc dL_refusesAny_519 4 rfl ?_
    refine V_iconst hc dL_refusesAny_520 ?_
    refine V_irem (X := True) hc dL_refusesAny_521 ⟨by omega, by omega, trivial⟩ (fun _ => ?_)
    refine V_if_ne (tgt := 529) (X := False) (Y := True) hc dL_refusesAny_522 (by decide) ⟨by omega, fun h => absurd h (by omega), fun _ => trivial⟩ (fun h => h.elim) (fun _ => ?_)
    refine V_iconst hc dL_refusesAny_525 ?_
    refine V_goto (tgt := 531) hc dL_refusesAny_526 (by decide) ?_
    refine V_iconst hc dL_refusesAny_531 ?_
    refine V_lc (As := [.ref hB, .int (iI 10), .int (iI 0), .int (iI 0)]) (hh := [(0, 178, 179, 51), (0, 178, 184, 53)]) hc hG (lc_ask_10 hl0 hW30 hI (by decide) (by decide)) (-11) σ (dr1 (fun v s q => by have h8 := q.1; omega)) rfl gL_refusesAny_L_ask rfl ⟨rfl, rfl⟩ ok_L_ask ⟨Nat.le_of_ble_eq_true rfl, Nat.le_of_ble_eq_true rfl⟩ (Nat.le_of_ble_eq_true rfl) dL_refusesAny_532 ⟨Nat.le_of_ble_eq_true rfl, Nat.le_of_ble_eq_true rfl⟩ (fun w31 hW31 => ?_)
    refine V_bipush hc dL_refusesAny_535 (by decide) ?_
    refine V_icmp_ne (tgt := 559) (X := False) (Y := True) hc dL_refusesAny_537 (by decide) ⟨by decide, by decide, fun h => absurd h (by decide), fun _ => trivial⟩ (fun h => h.elim) (fun _ => ?_)
    refine V_aload_n hc dL_refusesAny_540 3 rfl ?_
    refine V_bipush hc dL_refusesAny_541 (by decide) ?_
    refine V_iconst hc dL_refusesAny_543 ?_
    refine V_iload_n hc dL_refusesAny_544 1 rfl ?_
    refine V_iadd hc dL_refusesAny_545 ?_
    refine V_iconst hc dL_refusesAny_546 ?_
    refine V_lc (As := [.ref hB, .int (iI 11), .int (iI (1 + ((-1) - (x % 99)))), .int (iI 0)]) (hh := [(0, 178, 179, 51), (0, 178, 184, 53)]) hc hG (lc_ask_11 hl0 hW31 hI (by omega) (by decide)) (-11) σ (dr1 (fun v s q => by have h8 := q.1; omega)) rfl gL_refusesAny_L_ask rfl ⟨rfl, rfl⟩ ok_L_ask ⟨Nat.le_of_ble_eq_true rfl, Nat.le_of_ble_eq_true rfl⟩ (Nat.le_of_ble_eq_true rfl) dL_refusesAny_547 ⟨Nat.le_of_ble_eq_true rfl, Nat.le_of_ble_eq_true rfl⟩ (fun w32 hW32 => ?_)
    refine V_bipush hc dL_refusesAny_550 (by decide) ?_
    refine V_icmp_ne (tgt := 559) (X := False) (Y := True) hc dL_refusesAny_552 (by decide) ⟨by decide, by decide, fun h => absurd h (by decide), fun _ => trivial⟩ (fun h => h.elim) (fun _ => ?_)
    refine V_iconst hc dL_refusesAny_555 ?_
    refine V_goto (tgt := 560) hc dL_refusesAny_556 (by decide) ?_
    refine V_istore hc dL_refusesAny_560 [(4, .int (iI 1)), (3, .int (iI ((-1) - (x % 99)))), (2, .int (iI ((-1) - (x % 99)))), (0, .ref hB), (1, .int (iI x))] (Nat.le_of_ble_eq_true rfl) rfl ?_
    refine V_iload hc dL_refusesAny_562 0 rfl ?_
    refine V_if_eq (tgt := 606) (X := False) (Y := True) hc dL_refusesAny_564 (by decide) ⟨by decide, fun h => absurd h (by decide), fun _ => trivial⟩ (fun h => h.elim) (fun _ => ?_)
    refine V_lv [3] [(0, .ref hB)] rfl ?_
    refine V_widen (k1 := 64) (n1 := 384) (Nat.le_of_ble_eq_true rfl) (Nat.le_of_ble_eq_true rfl) ?_
    exact TAIL w32 hW32
  · refine V_iload_n hc dL_refusesAny_0 1 rfl ?_
    refine V_iconst hc dL_refusesAny_1 ?_
    refine V_irem (X := True) hc dL_refusesAny_2 ⟨by omega, by omega, trivial⟩ (fun _ => ?_)
    refine V_if_ne (tgt := 15) (X := True) (Y := False) hc dL_refusesAny_3 (by decide) ⟨by omega, fun _ => trivial, fun h => h (by omega)⟩ (fun _ => ?_) (fun h => h.elim)
    refine V_sipush hc dL_refusesAny_15 (by decide) ?_
    refine V_iload_n hc dL_refusesAny_18 1 rfl ?_
    refine V_bipush hc dL_refusesAny_19 (by decide) ?_
    refine V_irem (X := True) hc dL_refusesAny_21 ⟨by omega, by omega, trivial⟩ (fun _ => ?_)
    refine V_iadd hc dL_refusesAny_22 ?_
    refine V_istore_n hc dL_refusesAny_23 [(2, .int (iI (500 + (x % 99)))), (0, .ref hB), (1, .int (iI x))] (Nat.le_of_ble_eq_true rfl) rfl ?_
    refine V_iconst hc dL_refusesAny_24 ?_
    refine V_iload_n hc dL_refusesAny_25 2 rfl ?_
    refine V_bipush hc dL_refusesAny_26 (by decide) ?_
    refine V_irem (X := True) hc dL_refusesAny_28 ⟨by omega, by omega, trivial⟩ (fun _ => ?_)
    refine V_isub hc dL_refusesAny_29 ?_
    refine V_istore_n hc dL_refusesAny_30 [(3, .int (iI ((-1) - (x % 99)))), (2, .int (iI (500 + (x % 99)))), (0, .ref hB), (1, .int (iI x))] (Nat.le_of_ble_eq_true rfl) rfl ?_
    refine V_aload_n hc dL_refusesAny_31 2 rfl ?_
    refine V_iconst hc dL_refusesAny_32 ?_
    refine V_iload_n hc dL_refusesAny_33 1 rfl ?_
    refine V_iconst hc dL_refusesAny_34 ?_
    refine V_lc (As := [.ref hB, .int (iI 0), .int (iI (500 + (x % 99))), .int (iI 0)]) (hh := [(0, 158, 159, 51), (0, 158, 164, 53), (0, 158, 169, 55)]) hc hG (lc_call_0 hl0 hCW hI (by omega) (by decide)) (-11) σ (dr_add (by omega)) rfl gL_refusesAny_L_call rfl ⟨rfl, rfl⟩ ok_L_call ⟨Nat.le_of_ble_eq_true rfl, Nat.le_of_ble_eq_true rfl⟩ (Nat.le_of_ble_eq_true rfl) dL_refusesAny_35 ⟨Nat.le_of_ble_eq_true rfl, Nat.le_of_ble_eq_true rfl⟩ (fun w1 hW1 => ?_)
    refine V_bipush hc dL_refusesAny_38 (by decide) ?_
    refine V_icmp_ne (tgt := 222) (X := False) (Y := True) hc dL_refusesAny_40 (by decide) ⟨by decide, by decide, fun h => absurd h (by decide), fun _ => trivial⟩ (fun h => h.elim) (fun _ => ?_)
    refine V_aload_n hc dL_refusesAny_43 2 rfl ?_
    refine V_iconst hc dL_refusesAny_44 ?_
    refine V_iload_n hc dL_refusesAny_45 1 rfl ?_
    refine V_iconst hc dL_refusesAny_46 ?_
    refine V_lc (As := [.ref hB, .int (iI 1), .int (iI (500 + (x % 99))), .int (iI 0)]) (hh := [(0, 158, 159, 51), (0, 158, 164, 53), (0, 158, 169, 55)]) hc hG (lc_call_1 hl0 hW1 hI (by omega) (by decide)) (-11) σ (dr1 (fun v s q => by have h8 := q.1; omega)) rfl gL_refusesAny_L_call rfl ⟨rfl, rfl⟩ ok_L_call ⟨Nat.le_of_ble_eq_true rfl, Nat.le_of_ble_eq_true rfl⟩ (Nat.le_of_ble_eq_true rfl) dL_refusesAny_47 ⟨Nat.le_of_ble_eq_true rfl, Nat.le_of_ble_eq_true rfl⟩ (fun w2 hW2 => ?_)
    refine V_bipush hc dL_refusesAny_50 (by decide) ?_
    refine V_icmp_ne (tgt := 222) (X := False) (Y := True) hc dL_refusesAny_52 (by decide) ⟨by decide, by decide, fun h => absurd h (by decide), fun _ => trivial⟩ (fun h => h.elim) (fun _ => ?_)
    refine V_aload_n hc dL_refusesAny_55 2 rfl ?_
    refine V_iconst hc dL_refusesAny_56 ?_
    refine V_iload_n hc dL_refusesAny_57 3 rfl ?_
    refine V_iconst hc dL_refusesAny_58 ?_
    refine V_irem (X := True) hc dL_refusesAny_59 ⟨by omega, by omega, trivial⟩ (fun _ => ?_)
    refine V_if_ne (tgt := 67) (X := True) (Y := False) hc dL_refusesAny_60 (by decide) ⟨by omega, fun _ => trivial, fun h => h (by omega)⟩ (fun _ => ?_) (fun h => h.elim)
    refine V_iconst hc dL_refusesAny_67 ?_
    refine V_iconst hc dL_refusesAny_68 ?_
    refine V_lc (As := [.ref hB, .int (iI 4), .int (iI 3), .int (iI 5)]) (hh := [(0, 158, 159, 51), (0, 158, 164, 53), (0, 158, 169, 55)]) hc hG (lc_call_4 hl0 hW2 hI (by decide) (by decide)) (-10) σ (dr_setI (by omega)) rfl gL_refusesAny_L_call rfl ⟨rfl, rfl⟩ ok_L_call ⟨Nat.le_of_ble_eq_true rfl, Nat.le_of_ble_eq_true rfl⟩ (Nat.le_of_ble_eq_true rfl) dL_refusesAny_69 ⟨Nat.le_of_ble_eq_true rfl, Nat.le_of_ble_eq_true rfl⟩ (fun w3 hW3 => ?_)
    refine V_bipush hc dL_refusesAny_72 (by decide) ?_
    refine V_icmp_ne (tgt := 222) (X := False) (Y := True) hc dL_refusesAny_74 (by decide) ⟨by decide, by decide, fun h => absurd h (by decide), fun _ => trivial⟩ (fun h => h.elim) (fun _ => ?_)
    refine V_aload_n hc dL_refusesAny_77 2 rfl ?_
    refine V_iconst hc dL_refusesAny_78 ?_
    refine V_iconst hc dL_refusesAny_79 ?_
    refine V_bipush hc dL_refusesAny_80 (by decide) ?_
    refine V_lc (As := [.ref hB, .int (iI 4), .int (iI 0), .int (iI 9)]) (hh := [(0, 158, 159, 51), (0, 158, 164, 53), (0, 158, 169, 55)]) hc hG (lc_call_4 hl0 hW3 hI (by decide) (by decide)) (-11) σ (dr_setV (by decide) (fun q => by have h8 := q; unfold ab_val at h8; omega)) rfl gL_refusesAny_L_call rfl ⟨rfl, rfl⟩ ok_L_call ⟨Nat.le_of_ble_eq_true rfl, Nat.le_of_ble_eq_true rfl⟩ (Nat.le_of_ble_eq_true rfl) dL_refusesAny_82 ⟨Nat.le_of_ble_eq_true rfl, Nat.le_of_ble_eq_true rfl⟩ (fun w4 hW4 => ?_)
    refine V_bipush hc dL_refusesAny_85 (by decide) ?_
    refine V_icmp_ne (tgt := 222) (X := False) (Y := True) hc dL_refusesAny_87 (by decide) ⟨by decide, by decide, fun h => absurd h (by decide), fun _ => trivial⟩ (fun h => h.elim) (fun _ => ?_)
    refine V_aload_n hc dL_refusesAny_90 2 rfl ?_
    refine V_iconst hc dL_refusesAny_91 ?_
    refine V_iconst hc dL_refusesAny_92 ?_
    refine V_bipush hc dL_refusesAny_93 (by decide) ?_
    refine V_lc (As := [.ref hB, .int (iI 4), .int (iI 0), .int (iI 101)]) (hh := [(0, 158, 159, 51), (0, 158, 164, 53), (0, 158, 169, 55)]) hc hG (lc_call_4 hl0 hW4 hI (by decide) (by decide)) (-11) σ (dr_setV (by decide) (fun q => by have h8 := q; unfold ab_val at h8; omega)) rfl gL_refusesAny_L_call rfl ⟨rfl, rfl⟩ ok_L_call ⟨Nat.le_of_ble_eq_true rfl, Nat.le_of_ble_eq_true rfl⟩ (Nat.le_of_ble_eq_true rfl) dL_refusesAny_95 ⟨Nat.le_of_ble_eq_true rfl, Nat.le_of_ble_eq_true rfl⟩ (fun w5 hW5 => ?_)
    refine V_bipush hc dL_refusesAny_98 (by decide) ?_
    refine V_icmp_ne (tgt := 222) (X := False) (Y := True) hc dL_refusesAny_100 (by decide) ⟨by decide, by decide, fun h => absurd h (by decide), fun _ => trivial⟩ (fun h => h.elim) (fun _ => ?_)
    refine V_aload_n hc dL_refusesAny_103 2 rfl ?_
    refine V_iconst hc dL_refusesAny_104 ?_
    refine V_iconst hc dL_refusesAny_105 ?_
    refine V_iconst hc dL_refusesAny_106 ?_
    refine V_lc (As := [.ref hB, .int (iI 4), .int (iI 1), .int (iI 2)]) (hh := [(0, 158, 159, 51), (0, 158, 164, 53), (0, 158, 169, 55)]) hc hG (lc_call_4 hl0 hW5 hI (by decide) (by decide)) (-11) σ (dr_setV (by decide) (fun q => by have h8 := q; unfold ab_val at h8; omega)) rfl gL_refusesAny_L_call rfl ⟨rfl, rfl⟩ ok_L_call ⟨Nat.le_of_ble_eq_true rfl, Nat.le_of_ble_eq_true rfl⟩ (Nat.le_of_ble_eq_true rfl) dL_refusesAny_107 ⟨Nat.le_of_ble_eq_true rfl, Nat.le_of_ble_eq_true rfl⟩ (fun w6 hW6 => ?_)
    refine V_bipush hc dL_refusesAny_110 (by decide) ?_
    refine V_icmp_ne (tgt := 222) (X := False) (Y := True) hc dL_refusesAny_112 (by decide) ⟨by decide, by decide, fun h => absurd h (by decide), fun _ => trivial⟩ (fun h => h.elim) (fun _ => ?_)
    refine V_aload_n hc dL_refusesAny_115 2 rfl ?_
    refine V_iconst hc dL_refusesAny_116 ?_
    refine V_iconst hc dL_refusesAny_117 ?_
    refine V_bipush hc dL_refusesAny_118 (by decide) ?_
    refine V_lc (As := [.ref hB, .int (iI 4), .int (iI 1), .int (iI 41)]) (hh := [(0, 158, 159, 51), (0, 158, 164, 53), (0, 158, 169, 55)]) hc hG (lc_call_4 hl0 hW6 hI (by decide) (by decide)) (-11) σ (dr_setV (by decide) (fun q => by have h8 := q; unfold ab_val at h8; omega)) rfl gL_refusesAny_L_call rfl ⟨rfl, rfl⟩ ok_L_call ⟨Nat.le_of_ble_eq_true rfl, Nat.le_of_ble_eq_true rfl⟩ (Nat.le_of_ble_eq_true rfl) dL_refusesAny_120 ⟨Nat.le_of_ble_eq_true rfl, Nat.le_of_ble_eq_true rfl⟩ (fun w7 hW7 => ?_)
    refine V_bipush hc dL_refusesAny_123 (by decide) ?_
    refine V_icmp_ne (tgt := 222) (X := False) (Y := True) hc dL_refusesAny_125 (by decide) ⟨by decide, by decide, fun h => absurd h (by decide), fun _ => trivial⟩ (fun h => h.elim) (fun _ => ?_)
    refine V_aload_n hc dL_refusesAny_128 2 rfl ?_
    refine V_iconst hc dL_refusesAny_129 ?_
    refine V_iconst hc dL_refusesAny_130 ?_
    refine V_iconst hc dL_refusesAny_131 ?_
    refine V_lc (As := [.ref hB, .int (iI 4), .int (iI 2), .int (iI 0)]) (hh := [(0, 158, 159, 51), (0, 158, 164, 53), (0, 158, 169, 55)]) hc hG (lc_call_4 hl0 hW7 hI (by decide) (by decide)) (-11) σ (dr_setV (by decide) (fun q => by have h8 := q; unfold ab_val at h8; omega)) rfl gL_refusesAny_L_call rfl ⟨rfl, rfl⟩ ok_L_call ⟨Nat.le_of_ble_eq_true rfl, Nat.le_of_ble_eq_true rfl⟩ (Nat.le_of_ble_eq_true rfl) dL_refusesAny_132 ⟨Nat.le_of_ble_eq_true rfl, Nat.le_of_ble_eq_true rfl⟩ (fun w8 hW8 => ?_)
    refine V_bipush hc dL_refusesAny_135 (by decide) ?_
    refine V_icmp_ne (tgt := 222) (X := False) (Y := True) hc dL_refusesAny_137 (by decide) ⟨by decide, by decide, fun h => absurd h (by decide), fun _ => trivial⟩ (fun h => h.elim) (fun _ => ?_)
    refine V_aload_n hc dL_refusesAny_140 2 rfl ?_
    refine V_iconst hc dL_refusesAny_141 ?_
    refine V_iconst hc dL_refusesAny_142 ?_
    refine V_bipush hc dL_refusesAny_143 (by decide) ?_
    refine V_lc (As := [.ref hB, .int (iI 4), .int (iI 2), .int (iI 9)]) (hh := [(0, 158, 159, 51), (0, 158, 164, 53), (0, 158, 169, 55)]) hc hG (lc_call_4 hl0 hW8 hI (by decide) (by decide)) (-11) σ (dr_setV (by decide) (fun q => by have h8 := q; unfold ab_val at h8; omega)) rfl gL_refusesAny_L_call rfl ⟨rfl, rfl⟩ ok_L_call ⟨Nat.le_of_ble_eq_true rfl, Nat.le_of_ble_eq_true rfl⟩ (Nat.le_of_ble_eq_true rfl) dL_refusesAny_145 ⟨Nat.le_of_ble_eq_true rfl, Nat.le_of_ble_eq_true rfl⟩ (fun w9 hW9 => ?_)
    refine V_bipush hc dL_refusesAny_148 (by decide) ?_
    refine V_icmp_ne (tgt := 222) (X := False) (Y := True) hc dL_refusesAny_150 (by decide) ⟨by decide, by decide, fun h => absurd h (by decide), fun _ => trivial⟩ (fun h => h.elim) (fun _ => ?_)
    refine V_aload_n hc dL_refusesAny_153 2 rfl ?_
    refine V_iconst hc dL_refusesAny_154 ?_
    refine V_bipush hc dL_refusesAny_155 (by decide) ?_
    refine V_iconst hc dL_refusesAny_157 ?_
    refine V_lc (As := [.ref hB, .int (iI 5), .int (iI 32), .int (iI 0)]) (hh := [(0, 158, 159, 51), (0, 158, 164, 53), (0, 158, 169, 55)]) hc hG (lc_call_5 hl0 hW9 hI (by decide) (by decide)) (-11) σ (dr_append (by omega)) rfl gL_refusesAny_L_call rfl ⟨rfl, rfl⟩ ok_L_call ⟨Nat.le_of_ble_eq_true rfl, Nat.le_of_ble_eq_true rfl⟩ (Nat.le_of_ble_eq_true rfl) dL_refusesAny_158 ⟨Nat.le_of_ble_eq_true rfl, Nat.le_of_ble_eq_true rfl⟩ (fun w10 hW10 => ?_)
    refine V_bipush hc dL_refusesAny_161 (by decide) ?_
    refine V_icmp_ne (tgt := 222) (X := False) (Y := True) hc dL_refusesAny_163 (by decide) ⟨by decide, by decide, fun h => absurd h (by decide), fun _ => trivial⟩ (fun h => h.elim) (fun _ => ?_)
    refine V_aload_n hc dL_refusesAny_166 2 rfl ?_
    refine V_iconst hc dL_refusesAny_167 ?_
    refine V_bipush hc dL_refusesAny_168 (by decide) ?_
    refine V_iconst hc dL_refusesAny_170 ?_
    refine V_lc (As := [.ref hB, .int (iI 5), .int (iI 127), .int (iI 0)]) (hh := [(0, 158, 159, 51), (0, 158, 164, 53), (0, 158, 169, 55)]) hc hG (lc_call_5 hl0 hW10 hI (by decide) (by decide)) (-11) σ (dr_append (by omega)) rfl gL_refusesAny_L_call rfl ⟨rfl, rfl⟩ ok_L_call ⟨Nat.le_of_ble_eq_true rfl, Nat.le_of_ble_eq_true rfl⟩ (Nat.le_of_ble_eq_true rfl) dL_refusesAny_171 ⟨Nat.le_of_ble_eq_true rfl, Nat.le_of_ble_eq_true rfl⟩ (fun w11 hW11 => ?_)
    refine V_bipush hc dL_refusesAny_174 (by decide) ?_
    refine V_icmp_ne (tgt := 222) (X := False) (Y := True) hc dL_refusesAny_176 (by decide) ⟨by decide, by decide, fun h => absurd h (by decide), fun _ => trivial⟩ (fun h => h.elim) (fun _ => ?_)
    refine V_aload_n hc dL_refusesAny_179 2 rfl ?_
    refine V_bipush hc dL_refusesAny_180 (by decide) ?_
    refine V_iconst hc dL_refusesAny_182 ?_
    refine V_iconst hc dL_refusesAny_183 ?_
    refine V_lc (As := [.ref hB, .int (iI 6), .int (iI 0), .int (iI 0)]) (hh := [(0, 158, 159, 51), (0, 158, 164, 53), (0, 158, 169, 55)]) hc hG (lc_call_6 hl0 hW11 hI (by decide) (by decide)) (-11) σ (dr_execute htx) rfl gL_refusesAny_L_call rfl ⟨rfl, rfl⟩ ok_L_call ⟨Nat.le_of_ble_eq_true rfl, Nat.le_of_ble_eq_true rfl⟩ (Nat.le_of_ble_eq_true rfl) dL_refusesAny_184 ⟨Nat.le_of_ble_eq_true rfl, Nat.le_of_ble_eq_true rfl⟩ (fun w12 hW12 => ?_)
    refine V_bipush hc dL_refusesAny_187 (by decide) ?_
    refine V_icmp_ne (tgt := 222) (X := False) (Y := True) hc dL_refusesAny_189 (by decide) ⟨by decide, by decide, fun h => absurd h (by decide), fun _ => trivial⟩ (fun h => h.elim) (fun _ => ?_)
    refine V_aload_n hc dL_refusesAny_192 2 rfl ?_
    refine V_bipush hc dL_refusesAny_193 (by decide) ?_
    refine V_iconst hc dL_refusesAny_195 ?_
    refine V_iconst hc dL_refusesAny_196 ?_
    refine V_lc (As := [.ref hB, .int (iI 8), .int (iI 2), .int (iI 0)]) (hh := [(0, 158, 159, 51), (0, 158, 164, 53), (0, 158, 169, 55)]) hc hG (lc_call_8 hl0 hW12 hI (by decide) (by decide)) (-11) σ (dr1 (fun v s q => by have h8 := q.1; omega)) rfl gL_refusesAny_L_call rfl ⟨rfl, rfl⟩ ok_L_call ⟨Nat.le_of_ble_eq_true rfl, Nat.le_of_ble_eq_true rfl⟩ (Nat.le_of_ble_eq_true rfl) dL_refusesAny_197 ⟨Nat.le_of_ble_eq_true rfl, Nat.le_of_ble_eq_true rfl⟩ (fun w13 hW13 => ?_)
    refine V_bipush hc dL_refusesAny_200 (by decide) ?_
    refine V_icmp_ne (tgt := 222) (X := False) (Y := True) hc dL_refusesAny_202 (by decide) ⟨by decide, by decide, fun h => absurd h (by decide), fun _ => trivial⟩ (fun h => h.elim) (fun _ => ?_)
    refine V_aload_n hc dL_refusesAny_205 2 rfl ?_
    refine V_bipush hc dL_refusesAny_206 (by decide) ?_
    refine V_iload_n hc dL_refusesAny_208 0 rfl ?_
    refine V_iconst hc dL_refusesAny_209 ?_
    refine V_lc (As := [.ref hB, .int (iI 9), .int (iI ((-1) - (x % 99))), .int (iI 0)]) (hh := [(0, 158, 159, 51), (0, 158, 164, 53), (0, 158, 169, 55)]) hc hG (lc_call_9 hl0 hW13 hI (by omega) (by decide)) (-11) σ (dr_goBackA (by omega)) rfl gL_refusesAny_L_call rfl ⟨rfl, rfl⟩ ok_L_call ⟨Nat.le_of_ble_eq_true rfl, Nat.le_of_ble_eq_true rfl⟩ (Nat.le_of_ble_eq_true rfl) dL_refusesAny_210 ⟨Nat.le_of_ble_eq_true rfl, Nat.le_of_ble_eq_true rfl⟩ (fun w14 hW14 => ?_)
    refine V_bipush hc dL_refusesAny_213 (by decide) ?_
    refine V_icmp_ne (tgt := 222) (X := False) (Y := True) hc dL_refusesAny_215 (by decide) ⟨by decide, by decide, fun h => absurd h (by decide), fun _ => trivial⟩ (fun h => h.elim) (fun _ => ?_)
    refine V_iconst hc dL_refusesAny_218 ?_
    refine V_goto (tgt := 223) hc dL_refusesAny_219 (by decide) ?_
    refine V_istore hc dL_refusesAny_223 [(4, .int (iI 1)), (3, .int (iI ((-1) - (x % 99)))), (2, .int (iI (500 + (x % 99)))), (0, .ref hB), (1, .int (iI x))] (Nat.le_of_ble_eq_true rfl) rfl ?_
    refine V_iload hc dL_refusesAny_225 0 rfl ?_
    refine V_if_eq (tgt := 484) (X := False) (Y := True) hc dL_refusesAny_227 (by decide) ⟨by decide, fun h => absurd h (by decide), fun _ => trivial⟩ (fun h => h.elim) (fun _ => ?_)
    refine V_aload_n hc dL_refusesAny_230 3 rfl ?_
    refine V_bipush hc dL_refusesAny_231 (by decide) ?_
    refine V_iload_n hc dL_refusesAny_233 2 rfl ?_
    refine V_iconst hc dL_refusesAny_234 ?_
    refine V_lc (As := [.ref hB, .int (iI 10), .int (iI (500 + (x % 99))), .int (iI 0)]) (hh := [(0, 158, 159, 51), (0, 158, 164, 53), (0, 158, 169, 55)]) hc hG (lc_call_10 hl0 hW14 hI (by omega) (by decide)) (-11) σ (dr1 (fun v s q => by have h8 := q.1; omega)) rfl gL_refusesAny_L_call rfl ⟨rfl, rfl⟩ ok_L_call ⟨Nat.le_of_ble_eq_true rfl, Nat.le_of_ble_eq_true rfl⟩ (Nat.le_of_ble_eq_true rfl) dL_refusesAny_235 ⟨Nat.le_of_ble_eq_true rfl, Nat.le_of_ble_eq_true rfl⟩ (fun w15 hW15 => ?_)
    refine V_bipush hc dL_refusesAny_238 (by decide) ?_
    refine V_icmp_ne (tgt := 484) (X := False) (Y := True) hc dL_refusesAny_240 (by decide) ⟨by decide, by decide, fun h => absurd h (by decide), fun _ => trivial⟩ (fun h => h.elim) (fun _ => ?_)
    refine V_aload_n hc dL_refusesAny_243 3 rfl ?_
    refine V_bipush hc dL_refusesAny_244 (by decide) ?_
    refine V_iload_n hc dL_refusesAny_246 2 rfl ?_
    refine V_iconst hc dL_refusesAny_247 ?_
    refine V_lc (As := [.ref hB, .int (iI 11), .int (iI (500 + (x % 99))), .int (iI 0)]) (hh := [(0, 158, 159, 51), (0, 158, 164, 53), (0, 158, 169, 55)]) hc hG (lc_call_11 hl0 hW15 hI (by omega) (by decide)) (-11) σ (dr1 (fun v s q => by have h8 := q.1; omega)) rfl gL_refusesAny_L_call rfl ⟨rfl, rfl⟩ ok_L_call ⟨Nat.le_of_ble_eq_true rfl, Nat.le_of_ble_eq_true rfl⟩ (Nat.le_of_ble_eq_true rfl) dL_refusesAny_248 ⟨Nat.le_of_ble_eq_true rfl, Nat.le_of_ble_eq_true rfl⟩ (fun w16 hW16 => ?_)
    refine V_bipush hc dL_refusesAny_251 (by decide) ?_
    refine V_icmp_ne (tgt := 484) (X := False) (Y := True) hc dL_refusesAny_253 (by decide) ⟨by decide, by decide, fun h => absurd h (by decide), fun _ => trivial⟩ (fun h => h.elim) (fun _ => ?_)
    refine V_aload_n hc dL_refusesAny_256 3 rfl ?_
    refine V_bipush hc dL_refusesAny_257 (by decide) ?_
    refine V_iconst hc dL_refusesAny_259 ?_
    refine V_iload_n hc dL_refusesAny_260 4 rfl ?_
    refine V_iconst hc dL_refusesAny_261 ?_
    refine V_irem (X := True) hc dL_refusesAny_262 ⟨by omega, by omega, trivial⟩ (fun _ => ?_)
    refine V_if_ne (tgt := 270) (X := True) (Y := False) hc dL_refusesAny_263 (by decide) ⟨by omega, fun _ => trivial, fun h => h (by omega)⟩ (fun _ => ?_) (fun h => h.elim)
    refine V_iconst hc dL_refusesAny_270 ?_
    refine V_lc (As := [.ref hB, .int (iI 11), .int (iI 0), .int (iI 4)]) (hh := [(0, 158, 159, 51), (0, 158, 164, 53), (0, 158, 169, 55)]) hc hG (lc_call_11 hl0 hW16 hI (by decide) (by decide)) (-11) σ (dr1 (fun v s q => by have h8 := q.1; omega)) rfl gL_refusesAny_L_call rfl ⟨rfl, rfl⟩ ok_L_call ⟨Nat.le_of_ble_eq_true rfl, Nat.le_of_ble_eq_true rfl⟩ (Nat.le_of_ble_eq_true rfl) dL_refusesAny_271 ⟨Nat.le_of_ble_eq_true rfl, Nat.le_of_ble_eq_true rfl⟩ (fun w17 hW17 => ?_)
    refine V_bipush hc dL_refusesAny_274 (by decide) ?_
    refine V_icmp_ne (tgt := 484) (X := False) (Y := True) hc dL_refusesAny_276 (by decide) ⟨by decide, by decide, fun h => absurd h (by decide), fun _ => trivial⟩ (fun h => h.elim) (fun _ => ?_)
    refine V_aload_n hc dL_refusesAny_279 3 rfl ?_
    refine V_iconst hc dL_refusesAny_280 ?_
    refine V_iload_n hc dL_refusesAny_281 2 rfl ?_
    refine V_iconst hc dL_refusesAny_282 ?_
    refine V_lc (As := [.ref hB, .int (iI 0), .int (iI (500 + (x % 99))), .int (iI 0)]) (hh := [(0, 178, 179, 51), (0, 178, 184, 53)]) hc hG (lc_ask_0 hl0 hW17 hI (by omega) (by decide)) (-11) σ (dr1 (fun v s q => by have h8 := q.1; omega)) rfl gL_refusesAny_L_ask rfl ⟨rfl, rfl⟩ ok_L_ask ⟨Nat.le_of_ble_eq_true rfl, Nat.le_of_ble_eq_true rfl⟩ (Nat.le_of_ble_eq_true rfl) dL_refusesAny_283 ⟨Nat.le_of_ble_eq_true rfl, Nat.le_of_ble_eq_true rfl⟩ (fun w18 hW18 => ?_)
    refine V_bipush hc dL_refusesAny_286 (by decide) ?_
    refine V_icmp_ne (tgt := 484) (X := False) (Y := True) hc dL_refusesAny_288 (by decide) ⟨by decide, by decide, fun h => absurd h (by decide), fun _ => trivial⟩ (fun h => h.elim) (fun _ => ?_)
    refine V_aload_n hc dL_refusesAny_291 3 rfl ?_
    refine V_iconst hc dL_refusesAny_292 ?_
    refine V_iload_n hc dL_refusesAny_293 1 rfl ?_
    refine V_iconst hc dL_refusesAny_294 ?_
    refine V_lc (As := [.ref hB, .int (iI 1), .int (iI ((-1) - (x % 99))), .int (iI 0)]) (hh := [(0, 178, 179, 51), (0, 178, 184, 53)]) hc hG (lc_ask_1 hl0 hW18 hI (by omega) (by decide)) (-11) σ (dr1 (fun v s q => by have h8 := q.1; omega)) rfl gL_refusesAny_L_ask rfl ⟨rfl, rfl⟩ ok_L_ask ⟨Nat.le_of_ble_eq_true rfl, Nat.le_of_ble_eq_true rfl⟩ (Nat.le_of_ble_eq_true rfl) dL_refusesAny_295 ⟨Nat.le_of_ble_eq_true rfl, Nat.le_of_ble_eq_true rfl⟩ (fun w19 hW19 => ?_)
    refine V_bipush hc dL_refusesAny_298 (by decide) ?_
    refine V_icmp_ne (tgt := 484) (X := False) (Y := True) hc dL_refusesAny_300 (by decide) ⟨by decide, by decide, fun h => absurd h (by decide), fun _ => trivial⟩ (fun h => h.elim) (fun _ => ?_)
    refine V_aload_n hc dL_refusesAny_303 3 rfl ?_
    refine V_iconst hc dL_refusesAny_304 ?_
    refine V_iload_n hc dL_refusesAny_305 1 rfl ?_
    refine V_iconst hc dL_refusesAny_306 ?_
    refine V_lc (As := [.ref hB, .int (iI 2), .int (iI ((-1) - (x % 99))), .int (iI 0)]) (hh := [(0, 178, 179, 51), (0, 178, 184, 53)]) hc hG (lc_ask_2_0 hl0 hW19 hI (by omega)) (-11) σ (dr1 (fun v s q => by have h8 := q.1; omega)) rfl gL_refusesAny_L_ask rfl ⟨rfl, rfl⟩ ok_L_ask ⟨Nat.le_of_ble_eq_true rfl, Nat.le_of_ble_eq_true rfl⟩ (Nat.le_of_ble_eq_true rfl) dL_refusesAny_307 ⟨Nat.le_of_ble_eq_true rfl, Nat.le_of_ble_eq_true rfl⟩ (fun w20 hW20 => ?_)
    refine V_bipush hc dL_refusesAny_310 (by decide) ?_
    refine V_icmp_ne (tgt := 484) (X := False) (Y := True) hc dL_refusesAny_312 (by decide) ⟨by decide, by decide, fun h => absurd h (by decide), fun _ => trivial⟩ (fun h => h.elim) (fun _ => ?_)
    refine V_aload_n hc dL_refusesAny_315 3 rfl ?_
    refine V_iconst hc dL_refusesAny_316 ?_
    refine V_iconst hc dL_refusesAny_317 ?_
    refine V_iload_n hc dL_refusesAny_318 4 rfl ?_
    refine V_iconst hc dL_refusesAny_319 ?_
    refine V_irem (X := True) hc dL_refusesAny_320 ⟨by omega, by omega, trivial⟩ (fun _ => ?_)
    refine V_if_ne (tgt := 328) (X := True) (Y := False) hc dL_refusesAny_321 (by decide) ⟨by omega, fun _ => trivial, fun h => h (by omega)⟩ (fun _ => ?_) (fun h => h.elim)
    refine V_bipush hc dL_refusesAny_328 (by decide) ?_
    refine V_lc (As := [.ref hB, .int (iI 2), .int (iI 0), .int (iI 105)]) (hh := [(0, 178, 179, 51), (0, 178, 184, 53)]) hc hG (lc_ask_2_105 hl0 hW20 hI (by decide)) (-11) σ (dr1 (fun v s q => by have h8 := q.1; omega)) rfl gL_refusesAny_L_ask rfl ⟨rfl, rfl⟩ ok_L_ask ⟨Nat.le_of_ble_eq_true rfl, Nat.le_of_ble_eq_true rfl⟩ (Nat.le_of_ble_eq_true rfl) dL_refusesAny_330 ⟨Nat.le_of_ble_eq_true rfl, Nat.le_of_ble_eq_true rfl⟩ (fun w21 hW21 => ?_)
    refine V_bipush hc dL_refusesAny_333 (by decide) ?_
    refine V_icmp_ne (tgt := 484) (X := False) (Y := True) hc dL_refusesAny_335 (by decide) ⟨by decide, by decide, fun h => absurd h (by decide), fun _ => trivial⟩ (fun h => h.elim) (fun _ => ?_)
    refine V_aload_n hc dL_refusesAny_338 3 rfl ?_
    refine V_iconst hc dL_refusesAny_339 ?_
    refine V_iconst hc dL_refusesAny_340 ?_
    refine V_iconst hc dL_refusesAny_341 ?_
    refine V_lc (As := [.ref hB, .int (iI 2), .int (iI 0), .int (iI (-1))]) (hh := [(0, 178, 179, 51), (0, 178, 184, 53)]) hc hG (lc_ask_2_m1 hl0 hW21 hI (by decide)) (-11) σ (dr1 (fun v s q => by have h8 := q.1; omega)) rfl gL_refusesAny_L_ask rfl ⟨rfl, rfl⟩ ok_L_ask ⟨Nat.le_of_ble_eq_true rfl, Nat.le_of_ble_eq_true rfl⟩ (Nat.le_of_ble_eq_true rfl) dL_refusesAny_342 ⟨Nat.le_of_ble_eq_true rfl, Nat.le_of_ble_eq_true rfl⟩ (fun w22 hW22 => ?_)
    refine V_bipush hc dL_refusesAny_345 (by decide) ?_
    refine V_icmp_ne (tgt := 484) (X := False) (Y := True) hc dL_refusesAny_347 (by decide) ⟨by decide, by decide, fun h => absurd h (by decide), fun _ => trivial⟩ (fun h => h.elim) (fun _ => ?_)
    refine V_aload_n hc dL_refusesAny_350 3 rfl ?_
    refine V_iconst hc dL_refusesAny_351 ?_
    refine V_iload_n hc dL_refusesAny_352 2 rfl ?_
    refine V_iconst hc dL_refusesAny_353 ?_
    refine V_lc (As := [.ref hB, .int (iI 3), .int (iI (500 + (x % 99))), .int (iI 0)]) (hh := [(0, 178, 179, 51), (0, 178, 184, 53)]) hc hG (lc_ask_3 hl0 hW22 hI (by omega) (by decide)) (-11) σ (dr1 (fun v s q => by have h8 := q.1; omega)) rfl gL_refusesAny_L_ask rfl ⟨rfl, rfl⟩ ok_L_ask ⟨Nat.le_of_ble_eq_true rfl, Nat.le_of_ble_eq_true rfl⟩ (Nat.le_of_ble_eq_true rfl) dL_refusesAny_354 ⟨Nat.le_of_ble_eq_true rfl, Nat.le_of_ble_eq_true rfl⟩ (fun w23 hW23 => ?_)
    refine V_bipush hc dL_refusesAny_357 (by decide) ?_
    refine V_icmp_ne (tgt := 484) (X := False) (Y := True) hc dL_refusesAny_359 (by decide) ⟨by decide, by decide, fun h => absurd h (by decide), fun _ => trivial⟩ (fun h => h.elim) (fun _ => ?_)
    refine V_aload_n hc dL_refusesAny_362 3 rfl ?_
    refine V_iconst hc dL_refusesAny_363 ?_
    refine V_iconst hc dL_refusesAny_364 ?_
    refine V_iload_n hc dL_refusesAny_365 1 rfl ?_
    refine V_lc (As := [.ref hB, .int (iI 3), .int (iI 0), .int (iI ((-1) - (x % 99)))]) (hh := [(0, 178, 179, 51), (0, 178, 184, 53)]) hc hG (lc_ask_3 hl0 hW23 hI (by decide) (by omega)) (-11) σ (dr1 (fun v s q => by have h8 := q.1; omega)) rfl gL_refusesAny_L_ask rfl ⟨rfl, rfl⟩ ok_L_ask ⟨Nat.le_of_ble_eq_true rfl, Nat.le_of_ble_eq_true rfl⟩ (Nat.le_of_ble_eq_true rfl) dL_refusesAny_366 ⟨Nat.le_of_ble_eq_true rfl, Nat.le_of_ble_eq_true rfl⟩ (fun w24 hW24 => ?_)
    refine V_bipush hc dL_refusesAny_369 (by decide) ?_
    refine V_icmp_ne (tgt := 484) (X := False) (Y := True) hc dL_refusesAny_371 (by decide) ⟨by decide, by decide, fun h => absurd h (by decide), fun _ => trivial⟩ (fun h => h.elim) (fun _ => ?_)
    refine V_aload_n hc dL_refusesAny_374 3 rfl ?_
    refine V_iconst hc dL_refusesAny_375 ?_
    refine V_iload_n hc dL_refusesAny_376 4 rfl ?_
    refine V_iconst hc dL_refusesAny_377 ?_
    refine V_irem (X := True) hc dL_refusesAny_378 ⟨by omega, by omega, trivial⟩ (fun _ => ?_)
    refine V_if_ne (tgt := 386) (X := True) (Y := False) hc dL_refusesAny_379 (by decide) ⟨by omega, fun _ => trivial, fun h => h (by omega)⟩ (fun _ => ?_) (fun h => h.elim)
    refine V_bipush hc dL_refusesAny_386 (by decide) ?_
    refine V_iconst hc dL_refusesAny_388 ?_
    refine V_lc (As := [.ref hB, .int (iI 4), .int (iI 7), .int (iI 0)]) (hh := [(0, 178, 179, 51), (0, 178, 184, 53)]) hc hG (lc_ask_4_0 hl0 hW24 hI (by decide)) (-11) σ (dr1 (fun v s q => by have h8 := q.1; omega)) rfl gL_refusesAny_L_ask rfl ⟨rfl, rfl⟩ ok_L_ask ⟨Nat.le_of_ble_eq_true rfl, Nat.le_of_ble_eq_true rfl⟩ (Nat.le_of_ble_eq_true rfl) dL_refusesAny_389 ⟨Nat.le_of_ble_eq_true rfl, Nat.le_of_ble_eq_true rfl⟩ (fun w25 hW25 => ?_)
    refine V_bipush hc dL_refusesAny_392 (by decide) ?_
    refine V_icmp_ne (tgt := 484) (X := False) (Y := True) hc dL_refusesAny_394 (by decide) ⟨by decide, by decide, fun h => absurd h (by decide), fun _ => trivial⟩ (fun h => h.elim) (fun _ => ?_)
    refine V_aload_n hc dL_refusesAny_397 3 rfl ?_
    refine V_iconst hc dL_refusesAny_398 ?_
    refine V_iload_n hc dL_refusesAny_399 4 rfl ?_
    refine V_iconst hc dL_refusesAny_400 ?_
    refine V_irem (X := True) hc dL_refusesAny_401 ⟨by omega, by omega, trivial⟩ (fun _ => ?_)
    refine V_if_ne (tgt := 409) (X := True) (Y := False) hc dL_refusesAny_402 (by decide) ⟨by omega, fun _ => trivial, fun h => h (by omega)⟩ (fun _ => ?_) (fun h => h.elim)
    refine V_bipush hc dL_refusesAny_409 (by decide) ?_
    refine V_iconst hc dL_refusesAny_411 ?_
    refine V_lc (As := [.ref hB, .int (iI 5), .int (iI 6), .int (iI 0)]) (hh := [(0, 178, 179, 51), (0, 178, 184, 53)]) hc hG (lc_ask_5 hl0 hW25 hI (by decide) (by decide)) (-11) σ (dr1 (fun v s q => by have h8 := q.1; omega)) rfl gL_refusesAny_L_ask rfl ⟨rfl, rfl⟩ ok_L_ask ⟨Nat.le_of_ble_eq_true rfl, Nat.le_of_ble_eq_true rfl⟩ (Nat.le_of_ble_eq_true rfl) dL_refusesAny_412 ⟨Nat.le_of_ble_eq_true rfl, Nat.le_of_ble_eq_true rfl⟩ (fun w26 hW26 => ?_)
    refine V_bipush hc dL_refusesAny_415 (by decide) ?_
    refine V_icmp_ne (tgt := 484) (X := False) (Y := True) hc dL_refusesAny_417 (by decide) ⟨by decide, by decide, fun h => absurd h (by decide), fun _ => trivial⟩ (fun h => h.elim) (fun _ => ?_)
    refine V_aload_n hc dL_refusesAny_420 3 rfl ?_
    refine V_bipush hc dL_refusesAny_421 (by decide) ?_
    refine V_iload_n hc dL_refusesAny_423 1 rfl ?_
    refine V_iconst hc dL_refusesAny_424 ?_
    refine V_lc (As := [.ref hB, .int (iI 6), .int (iI ((-1) - (x % 99))), .int (iI 0)]) (hh := [(0, 178, 179, 51), (0, 178, 184, 53)]) hc hG (lc_ask_6 hl0 hW26 hI (by omega) (by decide)) (-11) σ (dr1 (fun v s q => by have h8 := q.1; omega)) rfl gL_refusesAny_L_ask rfl ⟨rfl, rfl⟩ ok_L_ask ⟨Nat.le_of_ble_eq_true rfl, Nat.le_of_ble_eq_true rfl⟩ (Nat.le_of_ble_eq_true rfl) dL_refusesAny_425 ⟨Nat.le_of_ble_eq_true rfl, Nat.le_of_ble_eq_true rfl⟩ (fun w27 hW27 => ?_)
    refine V_bipush hc dL_refusesAny_428 (by decide) ?_
    refine V_icmp_ne (tgt := 484) (X := False) (Y := True) hc dL_refusesAny_430 (by decide) ⟨by decide, by decide, fun h => absurd h (by decide), fun _ => trivial⟩ (fun h => h.elim) (fun _ => ?_)
    refine V_aload_n hc dL_refusesAny_433 3 rfl ?_
    refine V_bipush hc dL_refusesAny_434 (by decide) ?_
    refine V_iload_n hc dL_refusesAny_436 4 rfl ?_
    refine V_iconst hc dL_refusesAny_437 ?_
    refine V_irem (X := True) hc dL_refusesAny_438 ⟨by omega, by omega, trivial⟩ (fun _ => ?_)
    refine V_if_ne (tgt := 446) (X := True) (Y := False) hc dL_refusesAny_439 (by decide) ⟨by omega, fun _ => trivial, fun h => h (by omega)⟩ (fun _ => ?_) (fun h => h.elim)
    refine V_bipush hc dL_refusesAny_446 (by decide) ?_
    refine V_iconst hc dL_refusesAny_448 ?_
    refine V_lc (As := [.ref hB, .int (iI 7), .int (iI 9), .int (iI 0)]) (hh := [(0, 178, 179, 51), (0, 178, 184, 53)]) hc hG (lc_ask_7 hl0 hW27 hI (by decide) (by decide)) (-11) σ (dr1 (fun v s q => by have h8 := q.1; omega)) rfl gL_refusesAny_L_ask rfl ⟨rfl, rfl⟩ ok_L_ask ⟨Nat.le_of_ble_eq_true rfl, Nat.le_of_ble_eq_true rfl⟩ (Nat.le_of_ble_eq_true rfl) dL_refusesAny_449 ⟨Nat.le_of_ble_eq_true rfl, Nat.le_of_ble_eq_true rfl⟩ (fun w28 hW28 => ?_)
    refine V_bipush hc dL_refusesAny_452 (by decide) ?_
    refine V_icmp_ne (tgt := 484) (X := False) (Y := True) hc dL_refusesAny_454 (by decide) ⟨by decide, by decide, fun h => absurd h (by decide), fun _ => trivial⟩ (fun h => h.elim) (fun _ => ?_)
    refine V_aload_n hc dL_refusesAny_457 3 rfl ?_
    refine V_bipush hc dL_refusesAny_458 (by decide) ?_
    refine V_iload_n hc dL_refusesAny_460 4 rfl ?_
    refine V_iconst hc dL_refusesAny_461 ?_
    refine V_irem (X := True) hc dL_refusesAny_462 ⟨by omega, by omega, trivial⟩ (fun _ => ?_)
    refine V_if_ne (tgt := 470) (X := True) (Y := False) hc dL_refusesAny_463 (by decide) ⟨by omega, fun _ => trivial, fun h => h (by omega)⟩ (fun _ => ?_) (fun h => h.elim)
    refine V_iconst hc dL_refusesAny_470 ?_
    refine V_iconst hc dL_refusesAny_471 ?_
    refine V_lc (As := [.ref hB, .int (iI 8), .int (iI 3), .int (iI 0)]) (hh := [(0, 178, 179, 51), (0, 178, 184, 53)]) hc hG (lc_ask_8 hl0 hW28 hI (by decide) (by decide)) (-10) σ (dr2 (fun v s q => by have h8 := q.1; omega)) rfl gL_refusesAny_L_ask rfl ⟨rfl, rfl⟩ ok_L_ask ⟨Nat.le_of_ble_eq_true rfl, Nat.le_of_ble_eq_true rfl⟩ (Nat.le_of_ble_eq_true rfl) dL_refusesAny_472 ⟨Nat.le_of_ble_eq_true rfl, Nat.le_of_ble_eq_true rfl⟩ (fun w29 hW29 => ?_)
    refine V_bipush hc dL_refusesAny_475 (by decide) ?_
    refine V_icmp_ne (tgt := 484) (X := False) (Y := True) hc dL_refusesAny_477 (by decide) ⟨by decide, by decide, fun h => absurd h (by decide), fun _ => trivial⟩ (fun h => h.elim) (fun _ => ?_)
    refine V_iconst hc dL_refusesAny_480 ?_
    refine V_goto (tgt := 485) hc dL_refusesAny_481 (by decide) ?_
    refine V_istore hc dL_refusesAny_485 [(4, .int (iI 1)), (3, .int (iI ((-1) - (x % 99)))), (2, .int (iI (500 + (x % 99)))), (0, .ref hB), (1, .int (iI x))] (Nat.le_of_ble_eq_true rfl) rfl ?_
    refine V_iload hc dL_refusesAny_487 0 rfl ?_
    refine V_if_eq (tgt := 559) (X := False) (Y := True) hc dL_refusesAny_489 (by decide) ⟨by decide, fun h => absurd h (by decide), fun _ => trivial⟩ (fun h => h.elim) (fun _ => ?_)
    refine V_aload_n hc dL_refusesAny_492 3 rfl ?_
    refine V_bipush hc dL_refusesAny_493 (by decide) ?_
    refine V_iload_n hc dL_refusesAny_495 4 rfl ?_
    refine V_iconst hc dL_refusesAny_496 ?_
    refine V_irem (X := True) hc dL_refusesAny_497 ⟨by omega, by omega, trivial⟩ (fun _ => ?_)
    refine V_if_ne (tgt := 505) (X := True) (Y := False) hc dL_refusesAny_498 (by decide) ⟨by omega, fun _ => trivial, fun h => h (by omega)⟩ (fun _ => ?_) (fun h => h.elim)
    refine V_bipush hc dL_refusesAny_505 (by decide) ?_
    refine V_iconst hc dL_refusesAny_507 ?_
    refine V_lc (As := [.ref hB, .int (iI 9), .int (iI 9), .int (iI 0)]) (hh := [(0, 178, 179, 51), (0, 178, 184, 53)]) hc hG (lc_ask_9 hl0 hW29 hI (by decide) (by decide)) (-11) σ (dr1 (fun v s q => by have h8 := q.1; omega)) rfl gL_refusesAny_L_ask rfl ⟨rfl, rfl⟩ ok_L_ask ⟨Nat.le_of_ble_eq_true rfl, Nat.le_of_ble_eq_true rfl⟩ (Nat.le_of_ble_eq_true rfl) dL_refusesAny_508 ⟨Nat.le_of_ble_eq_true rfl, Nat.le_of_ble_eq_true rfl⟩ (fun w30 hW30 => ?_)
    refine V_bipush hc dL_refusesAny_511 (by decide) ?_
    refine V_icmp_ne (tgt := 559) (X := False) (Y := True) hc dL_refusesAny_513 (by decide) ⟨by decide, by decide, fun h => absurd h (by decide), fun _ => trivial⟩ (fun h => h.elim) (fun _ => ?_)
    refine V_aload_n hc dL_refusesAny_516 3 rfl ?_
    refine V_bipush hc dL_refusesAny_517 (by decide) ?_
    refine V_iload_n hc dL_refusesAny_519 4 rfl ?_
    refine V_iconst hc dL_refusesAny_520 ?_
    refine V_irem (X := True) hc dL_refusesAny_521 ⟨by omega, by omega, trivial⟩ (fun _ => ?_)
    refine V_if_ne (tgt := 529) (X := True) (Y := False) hc dL_refusesAny_522 (by decide) ⟨by omega, fun _ => trivial, fun h => h (by omega)⟩ (fun _ => ?_) (fun h => h.elim)
    refine V_bipush hc dL_refusesAny_529 (by decide) ?_
    refine V_iconst hc dL_refusesAny_531 ?_
    refine V_lc (As := [.ref hB, .int (iI 10), .int (iI 9), .int (iI 0)]) (hh := [(0, 178, 179, 51), (0, 178, 184, 53)]) hc hG (lc_ask_10 hl0 hW30 hI (by decide) (by decide)) (-11) σ (dr1 (fun v s q => by have h8 := q.1; omega)) rfl gL_refusesAny_L_ask rfl ⟨rfl, rfl⟩ ok_L_ask ⟨Nat.le_of_ble_eq_true rfl, Nat.le_of_ble_eq_true rfl⟩ (Nat.le_of_ble_eq_true rfl) dL_refusesAny_532 ⟨Nat.le_of_ble_eq_true rfl, Nat.le_of_ble_eq_true rfl⟩ (fun w31 hW31 => ?_)
    refine V_bipush hc dL_refusesAny_535 (by decide) ?_
    refine V_icmp_ne (tgt := 559) (X := False) (Y := True) hc dL_refusesAny_537 (by decide) ⟨by decide, by decide, fun h => absurd h (by decide), fun _ => trivial⟩ (fun h => h.elim) (fun _ => ?_)
    refine V_aload_n hc dL_refusesAny_540 3 rfl ?_
    refine V_bipush hc dL_refusesAny_541 (by decide) ?_
    refine V_iconst hc dL_refusesAny_543 ?_
    refine V_iload_n hc dL_refusesAny_544 1 rfl ?_
    refine V_iadd hc dL_refusesAny_545 ?_
    refine V_iconst hc dL_refusesAny_546 ?_
    refine V_lc (As := [.ref hB, .int (iI 11), .int (iI (1 + ((-1) - (x % 99)))), .int (iI 0)]) (hh := [(0, 178, 179, 51), (0, 178, 184, 53)]) hc hG (lc_ask_11 hl0 hW31 hI (by omega) (by decide)) (-11) σ (dr1 (fun v s q => by have h8 := q.1; omega)) rfl gL_refusesAny_L_ask rfl ⟨rfl, rfl⟩ ok_L_ask ⟨Nat.le_of_ble_eq_true rfl, Nat.le_of_ble_eq_true rfl⟩ (Nat.le_of_ble_eq_true rfl) dL_refusesAny_547 ⟨Nat.le_of_ble_eq_true rfl, Nat.le_of_ble_eq_true rfl⟩ (fun w32 hW32 => ?_)
    refine V_bipush hc dL_refusesAny_550 (by decide) ?_
    refine V_icmp_ne (tgt := 559) (X := False) (Y := True) hc dL_refusesAny_552 (by decide) ⟨by decide, by decide, fun h => absurd h (by decide), fun _ => trivial⟩ (fun h => h.elim) (fun _ => ?_)
    refine V_iconst hc dL_refusesAny_555 ?_
    refine V_goto (tgt := 560) hc dL_refusesAny_556 (by decide) ?_
    refine V_istore hc dL_refusesAny_560 [(4, .int (iI 1)), (3, .int (iI ((-1) - (x % 99)))), (2, .int (iI (500 + (x % 99)))), (0, .ref hB), (1, .int (iI x))] (Nat.le_of_ble_eq_true rfl) rfl ?_
    refine V_iload hc dL_refusesAny_562 0 rfl ?_
    refine V_if_eq (tgt := 606) (X := False) (Y := True) hc dL_refusesAny_564 (by decide) ⟨by decide, fun h => absurd h (by decide), fun _ => trivial⟩ (fun h => h.elim) (fun _ => ?_)
    refine V_lv [3] [(0, .ref hB)] rfl ?_
    refine V_widen (k1 := 64) (n1 := 384) (Nat.le_of_ble_eq_true rfl) (Nat.le_of_ble_eq_true rfl) ?_
    exact TAIL w32 hW32
abbrev rm_L_refuses : Room := { frames := 10, cells := 263, slots := 1578, locals := 248 }
set_option maxHeartbeats 4000000 in
theorem lm_refuses {l : Launch} (hl0 : l.stackTraces = false) {D : va_G} {t : Nat → ClassId} {hB : Nat} {σ : aW} {ws0 : va_W} (hCW : CW t hB ws0 σ) (hI : ivE σ) (htx : σ.2.2.2 = []) {x : Int} (hx : 0 ≤ x ∧ x ≤ 2147483647) : MWi l D t yL_refuses wsL_refuses rm_L_refuses [.ref hB, .int (iI x)] ws0 idW (po_L t hB (fun r σ1 => r = 1 ∧ σ1 = σ)) 263 1578 := by
  refine M_ofgz (cc := cL_refuses) (nL := 5) (by decide) rfl (Nat.le_of_ble_eq_true rfl) ?_
  intro p e s m args below meth c A hc hG hr
  refine V_lv [0, 1] [(0, .ref hB), (1, .int (iI x))] rfl ?_
  refine V_aload_n hc dL_refuses_0 0 rfl ?_
  refine V_ll (As := [.ref hB]) hc hG (lm_seen hl0 hCW hI) rfl gL_refuses_L_seen rfl ⟨rfl, rfl⟩ ok_L_seen ⟨Nat.le_of_ble_eq_true rfl, Nat.le_of_ble_eq_true rfl⟩ (Nat.le_of_ble_eq_true rfl) dL_refuses_1 ⟨Nat.le_of_ble_eq_true rfl, Nat.le_of_ble_eq_true rfl⟩ (fun w1 hW1 => ?_)
  refine V_lstore_n hc dL_refuses_4 [(2, .long (SN σ.1)), (0, .ref hB), (1, .int (iI x))] (Nat.le_of_ble_eq_true rfl) rfl ?_
  refine V_aload_n hc dL_refuses_5 1 rfl ?_
  refine V_bipush hc dL_refuses_6 (by decide) ?_
  refine V_fd (As := [.int (iI 7)]) hc (fc_count hl0 hW1 hI (by decide)) (fun j h9 => h9.2.1 ⟨by decide, by decide⟩) (σ.2.1.length : Int) σ (fun r σ2 h9 => ⟨h9.2.1.trans cn_7, h9.2.2⟩) rfl gL_refuses_X4_count rfl ⟨rfl, rfl⟩ ok_X4_count ⟨Nat.le_of_ble_eq_true rfl, Nat.le_of_ble_eq_true rfl⟩ (Nat.le_of_ble_eq_true rfl) dL_refuses_8 ⟨Nat.le_of_ble_eq_true rfl, Nat.le_of_ble_eq_true rfl⟩ (fun w2 hW2 => ?_)
  refine V_istore hc dL_refuses_11 [(4, .int (iI (σ.2.1.length : Int))), (2, .long (SN σ.1)), (0, .ref hB), (1, .int (iI x))] (Nat.le_of_ble_eq_true rfl) rfl ?_
  refine V_aload_n hc dL_refuses_13 2 rfl ?_
  refine V_iload_n hc dL_refuses_14 3 rfl ?_
  refine V_lz (As := [.ref hB, .int (iI x)]) hc hG (lm_refusesAny hl0 hW2 hI htx hx) 1 σ (fun r σ2 h9 => h9) rfl gL_refuses_L_refusesAny rfl ⟨rfl, rfl⟩ ok_L_refusesAny ⟨Nat.le_of_ble_eq_true rfl, Nat.le_of_ble_eq_true rfl⟩ (Nat.le_of_ble_eq_true rfl) dL_refuses_15 ⟨Nat.le_of_ble_eq_true rfl, Nat.le_of_ble_eq_true rfl⟩ (fun w3 hW3 => ?_)
  refine V_if_eq (tgt := 45) (X := False) (Y := True) hc dL_refuses_18 (by decide) ⟨by decide, fun h => absurd h (by decide), fun _ => trivial⟩ (fun h => h.elim) (fun _ => ?_)
  refine V_aload_n hc dL_refuses_21 2 rfl ?_
  refine V_ll (As := [.ref hB]) hc hG (lm_seen hl0 hW3 hI) rfl gL_refuses_L_seen rfl ⟨rfl, rfl⟩ ok_L_seen ⟨Nat.le_of_ble_eq_true rfl, Nat.le_of_ble_eq_true rfl⟩ (Nat.le_of_ble_eq_true rfl) dL_refuses_22 ⟨Nat.le_of_ble_eq_true rfl, Nat.le_of_ble_eq_true rfl⟩ (fun w4 hW4 => ?_)
  refine V_lload_n hc dL_refuses_25 1 rfl ?_
  refine V_lcmpT hc dL_refuses_26 (rfl) ?_
  refine V_if_ne (tgt := 45) (X := False) (Y := True) hc dL_refuses_27 (by decide) ⟨by decide, fun h => absurd h (by decide), fun _ => trivial⟩ (fun h => h.elim) (fun _ => ?_)
  refine V_aload_n hc dL_refuses_30 2 rfl ?_
  refine V_bipush hc dL_refuses_31 (by decide) ?_
  refine V_fd (As := [.int (iI 7)]) hc (fc_count hl0 hW4 hI (by decide)) (fun j h9 => h9.2.1 ⟨by decide, by decide⟩) (σ.2.1.length : Int) σ (fun r σ2 h9 => ⟨h9.2.1.trans cn_7, h9.2.2⟩) rfl gL_refuses_X4_count rfl ⟨rfl, rfl⟩ ok_X4_count ⟨Nat.le_of_ble_eq_true rfl, Nat.le_of_ble_eq_true rfl⟩ (Nat.le_of_ble_eq_true rfl) dL_refuses_33 ⟨Nat.le_of_ble_eq_true rfl, Nat.le_of_ble_eq_true rfl⟩ (fun w5 hW5 => ?_)
  refine V_iload hc dL_refuses_36 0 rfl ?_
  refine V_neF (tgt := 45) hc dL_refuses_38 (by decide) rfl ?_
  refine V_iconst hc dL_refuses_41 ?_
  refine V_goto (tgt := 46) hc dL_refuses_42 (by decide) ?_
  refine V_widen (k1 := 263) (n1 := 1578) (Nat.le_of_ble_eq_true rfl) (Nat.le_of_ble_eq_true rfl) ?_
  exact V_zret hc hr w5 ⟨Or.inr rfl, σ, ⟨rfl, rfl⟩, hW5⟩ rfl dL_refuses_46
