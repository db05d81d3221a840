/-! seen: one number out of a state -/
def itL (f : Int64 → Nat → Int64) : Nat → Nat → Int64 → Int64
  | 0, _, h => h
  | n + 1, k, h => itL f n (k + 1) (f h k)
noncomputable def sn1 (A : aS) (h : Int64) (k : Nat) : Int64 := (31 : Int64) * ((31 : Int64) * ((31 : Int64) * h + (iI (ab_cn A [] [] (k : Int))).toInt64) + (iI (ab_tr (as_T A) (k : Int))).toInt64) + (iI (ab_tr (as_U A) (k : Int))).toInt64
noncomputable def sn2 (A : aS) (h : Int64) (k : Nat) : Int64 := (31 : Int64) * h + (iI (ab_reb A (k : Int))).toInt64
noncomputable def sn3 (A : aS) (h : Int64) (k : Nat) : Int64 := (31 : Int64) * ((31 : Int64) * ((31 : Int64) * h + (iI (ab_node (as_T A).1 (as_T A).2 (k : Int) 0)).toInt64) + (iI (ab_node (as_T A).1 (as_T A).2 (k : Int) 1)).toInt64) + (iI (ab_node (as_U A).1 (as_U A).2 (k : Int) 0)).toInt64
noncomputable def sn4 (A : aS) (h : Int64) (k : Nat) : Int64 := (31 : Int64) * h + (iI (((as_Q A)[((k : Nat) : Int).toNat]?).getD (-1))).toInt64
noncomputable def sn5 (A : aS) (h : Int64) : Int64 := (31 : Int64) * ((31 : Int64) * ((31 : Int64) * h + (iI (as_E A (0 : Int).toNat)).toInt64) + (iI (as_E A (1 : Int).toNat)).toInt64) + (iI (as_E A (2 : Int).toNat)).toInt64
noncomputable def SN (A : aS) : Int64 := sn5 A (itL (sn4 A) 31 0 (itL (sn3 A) 12 0 (itL (sn2 A) 6 0 (itL (sn1 A) 7 0 (61 : Int64)))))
abbrev rm_L_seen : Room := { frames := 8, cells := 97, slots := 582, locals := 127 }
theorem m_L_seen_k97 : Cond.constantLong RL 97 31 ∈ wsL_seen := by decide +kernel
theorem m_L_seen_k95 : Cond.constantLong RL 95 61 ∈ wsL_seen := by decide +kernel
set_option maxHeartbeats 8000000 in
theorem lm_seen {l : Launch} (hl0 : l.stackTraces = false) {D : va_G} {t : Nat → ClassId} {hB : Nat} {σ : aW} {ws0 : va_W} (hCW : CW t hB ws0 σ) (hI : ivE σ) : MWl l D t yL_seen wsL_seen rm_L_seen [.ref hB] ws0 idW (fun r u => r = SN σ.1 ∧ CW t hB u σ) 97 582 := by
  refine M_ofgl (cc := cL_seen) (nL := 4) (by decide) rfl (Nat.le_of_ble_eq_true rfl) ?_
  intro p e s m args below meth c A hc hG hr
  have E5 : ∀ (h : Int64) (w : va_W), CW t hB w σ → sn5 σ.1 h = SN σ.1 → V p l e rm_L_seen s m args below meth c D A 4 94 564 (MQ below (QL D A idW (fun r u => r = SN σ.1 ∧ CW t hB u σ)) args s 97 582 A) 164 [(0, .ref hB), (1, .long h)] [] w := by
    intro h w hW hh
    refine V_ldc2 hc m_L_seen_k97 dL_seen_164 ?_
    refine V_ldc2 hc m_L_seen_k97 dL_seen_167 ?_
    refine V_ldc2 hc m_L_seen_k97 dL_seen_170 ?_
    refine V_lload_n hc dL_seen_173 1 rfl ?_
    refine V_lmul hc dL_seen_174 ?_
    refine V_aload_n hc dL_seen_175 0 rfl ?_
    refine V_iconst hc dL_seen_176 ?_
    refine V_fd (As := [.int (iI 0)]) hc (fc_setting hl0 hW hI (by decide)) (fun j h9 => h9.2.1 ⟨by decide, by decide⟩) (as_E σ.1 (0 : Int).toNat) σ (fun r σ2 h9 => ⟨h9.2.1, h9.2.2⟩) rfl gL_seen_X4_setting rfl ⟨rfl, rfl⟩ ok_X4_setting ⟨Nat.le_of_ble_eq_true rfl, Nat.le_of_ble_eq_true rfl⟩ (Nat.le_of_ble_eq_true rfl) dL_seen_177 ⟨Nat.le_of_ble_eq_true rfl, Nat.le_of_ble_eq_true rfl⟩ (fun w1 hW1 => ?_)
    refine V_i2l hc dL_seen_180 ?_
    refine V_ladd hc dL_seen_181 ?_
    refine V_lmul hc dL_seen_182 ?_
    refine V_aload_n hc dL_seen_183 0 rfl ?_
    refine V_iconst hc dL_seen_184 ?_
    refine V_fd (As := [.int (iI 1)]) hc (fc_setting hl0 hW1 hI (by decide)) (fun j h9 => h9.2.1 ⟨by decide, by decide⟩) (as_E σ.1 (1 : Int).toNat) σ (fun r σ2 h9 => ⟨h9.2.1, h9.2.2⟩) rfl gL_seen_X4_setting rfl ⟨rfl, rfl⟩ ok_X4_setting ⟨Nat.le_of_ble_eq_true rfl, Nat.le_of_ble_eq_true rfl⟩ (Nat.le_of_ble_eq_true rfl) dL_seen_185 ⟨Nat.le_of_ble_eq_true rfl, Nat.le_of_ble_eq_true rfl⟩ (fun w2 hW2 => ?_)
    refine V_i2l hc dL_seen_188 ?_
    refine V_ladd hc dL_seen_189 ?_
    refine V_lmul hc dL_seen_190 ?_
    refine V_aload_n hc dL_seen_191 0 rfl ?_
    refine V_iconst hc dL_seen_192 ?_
    refine V_fd (As := [.int (iI 2)]) hc (fc_setting hl0 hW2 hI (by decide)) (fun j h9 => h9.2.1 ⟨by decide, by decide⟩) (as_E σ.1 (2 : Int).toNat) σ (fun r σ2 h9 => ⟨h9.2.1, h9.2.2⟩) rfl gL_seen_X4_setting rfl ⟨rfl, rfl⟩ ok_X4_setting ⟨Nat.le_of_ble_eq_true rfl, Nat.le_of_ble_eq_true rfl⟩ (Nat.le_of_ble_eq_true rfl) dL_seen_193 ⟨Nat.le_of_ble_eq_true rfl, Nat.le_of_ble_eq_true rfl⟩ (fun w3 hW3 => ?_)
    refine V_i2l hc dL_seen_196 ?_
    refine V_ladd hc dL_seen_197 ?_
    refine V_widen (k1 := 97) (n1 := 582) (Nat.le_of_ble_eq_true rfl) (Nat.le_of_ble_eq_true rfl) ?_
    exact V_lret hc hr w3 ⟨hh, hW3⟩ rfl dL_seen_198
  have L4 : ∀ (n k : Nat) (h : Int64) (w : va_W), k + n = 31 → CW t hB w σ → sn5 σ.1 (itL (sn4 σ.1) n k h) = SN σ.1 → V p l e rm_L_seen s m args below meth c D A 4 (63 + 1 * k) (378 + 6 * k) (MQ below (QL D A idW (fun r u => r = SN σ.1 ∧ CW t hB u σ)) args s 97 582 A) 139 [(0, .ref hB), (1, .long h), (3, .int (iI (k : Int)))] [] w := by
    intro n
    induction n with
    | zero =>
      intro k h w hk hW hh
      refine V_iload_n hc dL_seen_139 2 rfl ?_
      refine V_bipush hc dL_seen_140 (by decide) ?_
      refine V_icmp_ge (tgt := 164) (X := True) (Y := False) hc dL_seen_142 (by decide) ⟨by omega, by decide, fun _ => trivial, fun h => h (by omega)⟩ (fun _ => ?_) (fun h => h.elim)
      refine V_lv [0, 1] [(0, .ref hB), (1, .long h)] rfl ?_
      refine V_widen (k1 := 94) (n1 := 564) (by omega) (by omega) ?_
      exact E5 h w hW hh
    | succ n ih =>
      intro k h w hk hW hh
      refine V_iload_n hc dL_seen_139 2 rfl ?_
      refine V_bipush hc dL_seen_140 (by decide) ?_
      refine V_icmp_ge (tgt := 164) (X := False) (Y := True) hc dL_seen_142 (by decide) ⟨by omega, by decide, fun h => absurd h (by omega), fun _ => trivial⟩ (fun h => h.elim) (fun _ => ?_)
      refine V_ldc2 hc m_L_seen_k97 dL_seen_145 ?_
      refine V_lload_n hc dL_seen_148 1 rfl ?_
      refine V_lmul hc dL_seen_149 ?_
      refine V_aload_n hc dL_seen_150 0 rfl ?_
      refine V_iload_n hc dL_seen_151 2 rfl ?_
      refine V_fd (As := [.int (iI (k : Int))]) hc (fc_queued hl0 hW hI (by omega)) (fun j h9 => by have h8 := h9.2.1; omega) (((as_Q σ.1)[((k : Int)).toNat]?).getD (-1)) σ (fun r σ2 h9 => ⟨h9.2.1, h9.2.2⟩) rfl gL_seen_X4_queued rfl ⟨rfl, rfl⟩ ok_X4_queued ⟨Nat.le_of_ble_eq_true rfl, Nat.le_of_ble_eq_true rfl⟩ (Nat.le_of_ble_eq_true rfl) dL_seen_152 ⟨Nat.le_trans (m := 97) (by omega) (Nat.le_of_ble_eq_true rfl), Nat.le_trans (m := 582) (by omega) (Nat.le_of_ble_eq_true rfl)⟩ (fun w1 hW1 => ?_)
      refine V_i2l hc dL_seen_155 ?_
      refine V_ladd hc dL_seen_156 ?_
      refine V_lstore_n hc dL_seen_157 [(1, .long (((31 : Int64) * h) + ((iI (((as_Q σ.1)[((k : Int)).toNat]?).getD (-1))).toInt64))), (0, .ref hB), (3, .int (iI (k : Int)))] (Nat.le_of_ble_eq_true rfl) rfl ?_
      refine V_iinc hc dL_seen_158 2 rfl [(3, .int (iI ((k : Int) + 1))), (1, .long (((31 : Int64) * h) + ((iI (((as_Q σ.1)[((k : Int)).toNat]?).getD (-1))).toInt64))), (0, .ref hB)] (Nat.le_of_ble_eq_true rfl) rfl ?_
      refine V_goto (tgt := 139) hc dL_seen_161 (by decide) ?_
      refine V_lv [2, 1, 0] [(0, .ref hB), (1, .long (sn4 σ.1 h k)), (3, .int (iI ((k + 1 : Nat) : Int)))] rfl ?_
      refine V_widen (k1 := 63 + 1 * (k + 1)) (n1 := 378 + 6 * (k + 1)) (by omega) (by omega) ?_
      exact ih (k + 1) _ _ (by omega) hW1 hh
  have L3 : ∀ (n k : Nat) (h : Int64) (w : va_W), k + n = 12 → CW t hB w σ → sn5 σ.1 (itL (sn4 σ.1) 31 0 (itL (sn3 σ.1) n k h)) = SN σ.1 → V p l e rm_L_seen s m args below meth c D A 4 (27 + 3 * k) (162 + 18 * k) (MQ below (QL D A idW (fun r u => r = SN σ.1 ∧ CW t hB u σ)) args s 97 582 A) 84 [(0, .ref hB), (1, .long h), (3, .int (iI (k : Int)))] [] w := by
    intro n
    induction n with
    | zero =>
      intro k h w hk hW hh
      refine V_iload_n hc dL_seen_84 2 rfl ?_
      refine V_bipush hc dL_seen_85 (by decide) ?_
      refine V_icmp_ge (tgt := 137) (X := True) (Y := False) hc dL_seen_87 (by decide) ⟨by omega, by decide, fun _ => trivial, fun h => h (by omega)⟩ (fun _ => ?_) (fun h => h.elim)
      refine V_iconst hc dL_seen_137 ?_
      refine V_istore_n hc dL_seen_138 [(3, .int (iI 0)), (0, .ref hB), (1, .long h)] (Nat.le_of_ble_eq_true rfl) rfl ?_
      refine V_lv [1, 2, 0] [(0, .ref hB), (1, .long h), (3, .int (iI ((0 : Nat) : Int)))] rfl ?_
      refine V_widen (k1 := 63 + 1 * 0) (n1 := 378 + 6 * 0) (by omega) (by omega) ?_
      exact L4 31 0 h w rfl hW hh
    | succ n ih =>
      intro k h w hk hW hh
      refine V_iload_n hc dL_seen_84 2 rfl ?_
      refine V_bipush hc dL_seen_85 (by decide) ?_
      refine V_icmp_ge (tgt := 137) (X := False) (Y := True) hc dL_seen_87 (by decide) ⟨by omega, by decide, fun h => absurd h (by omega), fun _ => trivial⟩ (fun h => h.elim) (fun _ => ?_)
      refine V_ldc2 hc m_L_seen_k97 dL_seen_90 ?_
      refine V_ldc2 hc m_L_seen_k97 dL_seen_93 ?_
      refine V_ldc2 hc m_L_seen_k97 dL_seen_96 ?_
      refine V_lload_n hc dL_seen_99 1 rfl ?_
      refine V_lmul hc dL_seen_100 ?_
      refine V_aload_n hc dL_seen_101 0 rfl ?_
      refine V_iconst hc dL_seen_102 ?_
      refine V_iload_n hc dL_seen_103 2 rfl ?_
      refine V_iconst hc dL_seen_104 ?_
      refine V_fd (As := [.int (iI 0), .int (iI (k : Int)), .int (iI 0)]) hc (fc_node hl0 hW hI (by decide) (by omega) (by decide)) (fun j h9 => h9.2.1 ⟨by omega, by decide, by decide⟩) (ab_node (as_T σ.1).1 (as_T σ.1).2 (k : Int) 0) σ (fun r σ2 h9 => ⟨h9.2.1.trans (if_pos rfl), h9.2.2⟩) rfl gL_seen_X4_node rfl ⟨rfl, rfl⟩ ok_X4_node ⟨Nat.le_of_ble_eq_true rfl, Nat.le_of_ble_eq_true rfl⟩ (Nat.le_of_ble_eq_true rfl) dL_seen_105 ⟨Nat.le_trans (m := 97) (by omega) (Nat.le_of_ble_eq_true rfl), Nat.le_trans (m := 582) (by omega) (Nat.le_of_ble_eq_true rfl)⟩ (fun w1 hW1 => ?_)
      refine V_i2l hc dL_seen_108 ?_
      refine V_ladd hc dL_seen_109 ?_
      refine V_lmul hc dL_seen_110 ?_
      refine V_aload_n hc dL_seen_111 0 rfl ?_
      refine V_iconst hc dL_seen_112 ?_
      refine V_iload_n hc dL_seen_113 2 rfl ?_
      refine V_iconst hc dL_seen_114 ?_
      refine V_fd (As := [.int (iI 0), .int (iI (k : Int)), .int (iI 1)]) hc (fc_node hl0 hW1 hI (by decide) (by omega) (by decide)) (fun j h9 => h9.2.1 ⟨by omega, by decide, by decide⟩) (ab_node (as_T σ.1).1 (as_T σ.1).2 (k : Int) 1) σ (fun r σ2 h9 => ⟨h9.2.1.trans (if_pos rfl), h9.2.2⟩) rfl gL_seen_X4_node rfl ⟨rfl, rfl⟩ ok_X4_node ⟨Nat.le_of_ble_eq_true rfl, Nat.le_of_ble_eq_true rfl⟩ (Nat.le_of_ble_eq_true rfl) dL_seen_115 ⟨Nat.le_trans (m := 97) (by omega) (Nat.le_of_ble_eq_true rfl), Nat.le_trans (m := 582) (by omega) (Nat.le_of_ble_eq_true rfl)⟩ (fun w2 hW2 => ?_)
      refine V_i2l hc dL_seen_118 ?_
      refine V_ladd hc dL_seen_119 ?_
      refine V_lmul hc dL_seen_120 ?_
      refine V_aload_n hc dL_seen_121 0 rfl ?_
      refine V_iconst hc dL_seen_122 ?_
      refine V_iload_n hc dL_seen_123 2 rfl ?_
      refine V_iconst hc dL_seen_124 ?_
      refine V_fd (As := [.int (iI 1), .int (iI (k : Int)), .int (iI 0)]) hc (fc_node hl0 hW2 hI (by decide) (by omega) (by decide)) (fun j h9 => h9.2.1 ⟨by omega, by decide, by decide⟩) (ab_node (as_U σ.1).1 (as_U σ.1).2 (k : Int) 0) σ (fun r σ2 h9 => ⟨h9.2.1.trans (if_neg (by decide)), h9.2.2⟩) rfl gL_seen_X4_node rfl ⟨rfl, rfl⟩ ok_X4_node ⟨Nat.le_of_ble_eq_true rfl, Nat.le_of_ble_eq_true rfl⟩ (Nat.le_of_ble_eq_true rfl) dL_seen_125 ⟨Nat.le_trans (m := 97) (by omega) (Nat.le_of_ble_eq_true rfl), Nat.le_trans (m := 582) (by omega) (Nat.le_of_ble_eq_true rfl)⟩ (fun w3 hW3 => ?_)
      refine V_i2l hc dL_seen_128 ?_
      refine V_ladd hc dL_seen_129 ?_
      refine V_lstore_n hc dL_seen_130 [(1, .long (((31 : Int64) * (((31 : Int64) * (((31 : Int64) * h) + ((iI (ab_node (as_T σ.1).1 (as_T σ.1).2 (k : Int) 0)).toInt64))) + ((iI (ab_node (as_T σ.1).1 (as_T σ.1).2 (k : Int) 1)).toInt64))) + ((iI (ab_node (as_U σ.1).1 (as_U σ.1).2 (k : Int) 0)).toInt64))), (0, .ref hB), (3, .int (iI (k : Int)))] (Nat.le_of_ble_eq_true rfl) rfl ?_
      refine V_iinc hc dL_seen_131 2 rfl [(3, .int (iI ((k : Int) + 1))), (1, .long (((31 : Int64) * (((31 : Int64) * (((31 : Int64) * h) + ((iI (ab_node (as_T σ.1).1 (as_T σ.1).2 (k : Int) 0)).toInt64))) + ((iI (ab_node (as_T σ.1).1 (as_T σ.1).2 (k : Int) 1)).toInt64))) + ((iI (ab_node (as_U σ.1).1 (as_U σ.1).2 (k : Int) 0)).toInt64))), (0, .ref hB)] (Nat.le_of_ble_eq_true rfl) rfl ?_
      refine V_goto (tgt := 84) hc dL_seen_134 (by decide) ?_
      refine V_lv [2, 1, 0] [(0, .ref hB), (1, .long (sn3 σ.1 h k)), (3, .int (iI ((k + 1 : Nat) : Int)))] rfl ?_
      refine V_widen (k1 := 27 + 3 * (k + 1)) (n1 := 162 + 18 * (k + 1)) (by omega) (by omega) ?_
      exact ih (k + 1) _ _ (by omega) hW3 hh
  have L2 : ∀ (n k : Nat) (h : Int64) (w : va_W), k + n = 6 → CW t hB w σ → sn5 σ.1 (itL (sn4 σ.1) 31 0 (itL (sn3 σ.1) 12 0 (itL (sn2 σ.1) n k h))) = SN σ.1 → V p l e rm_L_seen s m args below meth c D A 4 (21 + 1 * k) (126 + 6 * k) (MQ below (QL D A idW (fun r u => r = SN σ.1 ∧ CW t hB u σ)) args s 97 582 A) 57 [(0, .ref hB), (1, .long h), (3, .int (iI (k : Int)))] [] w := by
    intro n
    induction n with
    | zero =>
      intro k h w hk hW hh
      refine V_iload_n hc dL_seen_57 2 rfl ?_
      refine V_bipush hc dL_seen_58 (by decide) ?_
      refine V_icmp_ge (tgt := 82) (X := True) (Y := False) hc dL_seen_60 (by decide) ⟨by omega, by decide, fun _ => trivial, fun h => h (by omega)⟩ (fun _ => ?_) (fun h => h.elim)
      refine V_iconst hc dL_seen_82 ?_
      refine V_istore_n hc dL_seen_83 [(3, .int (iI 0)), (0, .ref hB), (1, .long h)] (Nat.le_of_ble_eq_true rfl) rfl ?_
      refine V_lv [1, 2, 0] [(0, .ref hB), (1, .long h), (3, .int (iI ((0 : Nat) : Int)))] rfl ?_
      refine V_widen (k1 := 27 + 3 * 0) (n1 := 162 + 18 * 0) (by omega) (by omega) ?_
      exact L3 12 0 h w rfl hW hh
    | succ n ih =>
      intro k h w hk hW hh
      refine V_iload_n hc dL_seen_57 2 rfl ?_
      refine V_bipush hc dL_seen_58 (by decide) ?_
      refine V_icmp_ge (tgt := 82) (X := False) (Y := True) hc dL_seen_60 (by decide) ⟨by omega, by decide, fun h => absurd h (by omega), fun _ => trivial⟩ (fun h => h.elim) (fun _ => ?_)
      refine V_ldc2 hc m_L_seen_k97 dL_seen_63 ?_
      refine V_lload_n hc dL_seen_66 1 rfl ?_
      refine V_lmul hc dL_seen_67 ?_
      refine V_aload_n hc dL_seen_68 0 rfl ?_
      refine V_iload_n hc dL_seen_69 2 rfl ?_
      refine V_fd (As := [.int (iI (k : Int))]) hc (fc_rebuild hl0 hW hI (by omega)) (fun j h9 => h9.2.1 ⟨by omega, by omega⟩) (ab_reb σ.1 (k : Int)) σ (fun r σ2 h9 => ⟨h9.2.1, h9.2.2⟩) rfl gL_seen_X4_rebuild rfl ⟨rfl, rfl⟩ ok_X4_rebuild ⟨Nat.le_of_ble_eq_true rfl, Nat.le_of_ble_eq_true rfl⟩ (Nat.le_of_ble_eq_true rfl) dL_seen_70 ⟨Nat.le_trans (m := 97) (by omega) (Nat.le_of_ble_eq_true rfl), Nat.le_trans (m := 582) (by omega) (Nat.le_of_ble_eq_true rfl)⟩ (fun w1 hW1 => ?_)
      refine V_i2l hc dL_seen_73 ?_
      refine V_ladd hc dL_seen_74 ?_
      refine V_lstore_n hc dL_seen_75 [(1, .long (((31 : Int64) * h) + ((iI (ab_reb σ.1 (k : Int))).toInt64))), (0, .ref hB), (3, .int (iI (k : Int)))] (Nat.le_of_ble_eq_true rfl) rfl ?_
      refine V_iinc hc dL_seen_76 2 rfl [(3, .int (iI ((k : Int) + 1))), (1, .long (((31 : Int64) * h) + ((iI (ab_reb σ.1 (k : Int))).toInt64))), (0, .ref hB)] (Nat.le_of_ble_eq_true rfl) rfl ?_
      refine V_goto (tgt := 57) hc dL_seen_79 (by decide) ?_
      refine V_lv [2, 1, 0] [(0, .ref hB), (1, .long (sn2 σ.1 h k)), (3, .int (iI ((k + 1 : Nat) : Int)))] rfl ?_
      refine V_widen (k1 := 21 + 1 * (k + 1)) (n1 := 126 + 6 * (k + 1)) (by omega) (by omega) ?_
      exact ih (k + 1) _ _ (by omega) hW1 hh
  have L1 : ∀ (n k : Nat) (h : Int64) (w : va_W), k + n = 7 → CW t hB w σ → sn5 σ.1 (itL (sn4 σ.1) 31 0 (itL (sn3 σ.1) 12 0 (itL (sn2 σ.1) 6 0 (itL (sn1 σ.1) n k h)))) = SN σ.1 → V p l e rm_L_seen s m args below meth c D A 4 (0 + 3 * k) (0 + 18 * k) (MQ below (QL D A idW (fun r u => r = SN σ.1 ∧ CW t hB u σ)) args s 97 582 A) 6 [(0, .ref hB), (1, .long h), (3, .int (iI (k : Int)))] [] w := by
    intro n
    induction n with
    | zero =>
      intro k h w hk hW hh
      refine V_iload_n hc dL_seen_6 2 rfl ?_
      refine V_bipush hc dL_seen_7 (by decide) ?_
      refine V_icmp_ge (tgt := 55) (X := True) (Y := False) hc dL_seen_9 (by decide) ⟨by omega, by decide, fun _ => trivial, fun h => h (by omega)⟩ (fun _ => ?_) (fun h => h.elim)
      refine V_iconst hc dL_seen_55 ?_
      refine V_istore_n hc dL_seen_56 [(3, .int (iI 0)), (0, .ref hB), (1, .long h)] (Nat.le_of_ble_eq_true rfl) rfl ?_
      refine V_lv [1, 2, 0] [(0, .ref hB), (1, .long h), (3, .int (iI ((0 : Nat) : Int)))] rfl ?_
      refine V_widen (k1 := 21 + 1 * 0) (n1 := 126 + 6 * 0) (by omega) (by omega) ?_
      exact L2 6 0 h w rfl hW hh
    | succ n ih =>
      intro k h w hk hW hh
      refine V_iload_n hc dL_seen_6 2 rfl ?_
      refine V_bipush hc dL_seen_7 (by decide) ?_
      refine V_icmp_ge (tgt := 55) (X := False) (Y := True) hc dL_seen_9 (by decide) ⟨by omega, by decide, fun h => absurd h (by omega), fun _ => trivial⟩ (fun h => h.elim) (fun _ => ?_)
      refine V_ldc2 hc m_L_seen_k97 dL_seen_12 ?_
      refine V_ldc2 hc m_L_seen_k97 dL_seen_15 ?_
      refine V_ldc2 hc m_L_seen_k97 dL_seen_18 ?_
      refine V_lload_n hc dL_seen_21 1 rfl ?_
      refine V_lmul hc dL_seen_22 ?_
      refine V_aload_n hc dL_seen_23 0 rfl ?_
      refine V_iload_n hc dL_seen_24 2 rfl ?_
      refine V_fd (As := [.int (iI (k : Int))]) hc (fc_count hl0 hW hI (by omega)) (fun j h9 => h9.2.1 ⟨by omega, by omega⟩) (ab_cn σ.1 [] [] (k : Int)) σ (fun r σ2 h9 => ⟨h9.2.1.trans (cn_e (by omega)), h9.2.2⟩) rfl gL_seen_X4_count rfl ⟨rfl, rfl⟩ ok_X4_count ⟨Nat.le_of_ble_eq_true rfl, Nat.le_of_ble_eq_true rfl⟩ (Nat.le_of_ble_eq_true rfl) dL_seen_25 ⟨Nat.le_trans (m := 97) (by omega) (Nat.le_of_ble_eq_true rfl), Nat.le_trans (m := 582) (by omega) (Nat.le_of_ble_eq_true rfl)⟩ (fun w1 hW1 => ?_)
      refine V_i2l hc dL_seen_28 ?_
      refine V_ladd hc dL_seen_29 ?_
      refine V_lmul hc dL_seen_30 ?_
      refine V_aload_n hc dL_seen_31 0 rfl ?_
      refine V_iconst hc dL_seen_32 ?_
      refine V_iload_n hc dL_seen_33 2 rfl ?_
      refine V_fd (As := [.int (iI 0), .int (iI (k : Int))]) hc (fc_tree hl0 hW1 hI (by decide) (by omega)) (fun j h9 => h9.2.1 ⟨by omega, by omega⟩) (ab_tr (as_T σ.1) (k : Int)) σ (fun r σ2 h9 => ⟨h9.2.1.trans (if_pos rfl), h9.2.2⟩) rfl gL_seen_X4_tree rfl ⟨rfl, rfl⟩ ok_X4_tree ⟨Nat.le_of_ble_eq_true rfl, Nat.le_of_ble_eq_true rfl⟩ (Nat.le_of_ble_eq_true rfl) dL_seen_34 ⟨Nat.le_trans (m := 97) (by omega) (Nat.le_of_ble_eq_true rfl), Nat.le_trans (m := 582) (by omega) (Nat.le_of_ble_eq_true rfl)⟩ (fun w2 hW2 => ?_)
      refine V_i2l hc dL_seen_37 ?_
      refine V_ladd hc dL_seen_38 ?_
      refine V_lmul hc dL_seen_39 ?_
      refine V_aload_n hc dL_seen_40 0 rfl ?_
      refine V_iconst hc dL_seen_41 ?_
      refine V_iload_n hc dL_seen_42 2 rfl ?_
      refine V_fd (As := [.int (iI 1), .int (iI (k : Int))]) hc (fc_tree hl0 hW2 hI (by decide) (by omega)) (fun j h9 => h9.2.1 ⟨by omega, by omega⟩) (ab_tr (as_U σ.1) (k : Int)) σ (fun r σ2 h9 => ⟨h9.2.1.trans (if_neg (by decide)), h9.2.2⟩) rfl gL_seen_X4_tree rfl ⟨rfl, rfl⟩ ok_X4_tree ⟨Nat.le_of_ble_eq_true rfl, Nat.le_of_ble_eq_true rfl⟩ (Nat.le_of_ble_eq_true rfl) dL_seen_43 ⟨Nat.le_trans (m := 97) (by omega) (Nat.le_of_ble_eq_true rfl), Nat.le_trans (m := 582) (by omega) (Nat.le_of_ble_eq_true rfl)⟩ (fun w3 hW3 => ?_)
      refine V_i2l hc dL_seen_46 ?_
      refine V_ladd hc dL_seen_47 ?_
      refine V_lstore_n hc dL_seen_48 [(1, .long (((31 : Int64) * (((31 : Int64) * (((31 : Int64) * h) + ((iI (ab_cn σ.1 [] [] (k : Int))).toInt64))) + ((iI (ab_tr (as_T σ.1) (k : Int))).toInt64))) + ((iI (ab_tr (as_U σ.1) (k : Int))).toInt64))), (0, .ref hB), (3, .int (iI (k : Int)))] (Nat.le_of_ble_eq_true rfl) rfl ?_
      refine V_iinc hc dL_seen_49 2 rfl [(3, .int (iI ((k : Int) + 1))), (1, .long (((31 : Int64) * (((31 : Int64) * (((31 : Int64) * h) + ((iI (ab_cn σ.1 [] [] (k : Int))).toInt64))) + ((iI (ab_tr (as_T σ.1) (k : Int))).toInt64))) + ((iI (ab_tr (as_U σ.1) (k : Int))).toInt64))), (0, .ref hB)] (Nat.le_of_ble_eq_true rfl) rfl ?_
      refine V_goto (tgt := 6) hc dL_seen_52 (by decide) ?_
      refine V_lv [2, 1, 0] [(0, .ref hB), (1, .long (sn1 σ.1 h k)), (3, .int (iI ((k + 1 : Nat) : Int)))] rfl ?_
      refine V_widen (k1 := 0 + 3 * (k + 1)) (n1 := 0 + 18 * (k + 1)) (by omega) (by omega) ?_
      exact ih (k + 1) _ _ (by omega) hW3 hh
  refine V_lv [0] [(0, .ref hB)] rfl ?_
  refine V_ldc2 hc m_L_seen_k95 dL_seen_0 ?_
  refine V_lstore_n hc dL_seen_3 [(1, .long (61 : Int64)), (0, .ref hB)] (Nat.le_of_ble_eq_true rfl) rfl ?_
  refine V_iconst hc dL_seen_4 ?_
  refine V_istore_n hc dL_seen_5 [(3, .int (iI 0)), (1, .long (61 : Int64)), (0, .ref hB)] (Nat.le_of_ble_eq_true rfl) rfl ?_
  refine V_lv [2, 1, 0] [(0, .ref hB), (1, .long (61 : Int64)), (3, .int (iI ((0 : Nat) : Int)))] rfl ?_
  refine V_widen (k1 := 0 + 3 * 0) (n1 := 0 + 18 * 0) (by omega) (by omega) ?_
  exact L1 7 0 _ _ rfl hCW rfl
