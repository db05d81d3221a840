/-! isSorted -/
theorem tr_0 {T : aT} : ab_tr T 0 = (T.1.length : Int) := by
  unfold ab_tr
  rw [if_pos rfl]
theorem tr_1 {T : aT} : ab_tr T 1 = ab_np T.1 T.2 := by
  unfold ab_tr
  rw [if_neg (by decide), if_pos rfl]
theorem tr_2 {T : aT} : ab_tr T 2 = (T.1.length : Int) - ab_np T.1 T.2 := by
  unfold ab_tr
  rw [if_neg (by decide), if_neg (by decide), if_pos rfl]
theorem tr_3 {T : aT} : ab_tr T 3 = ab_dmax T.1 := by
  unfold ab_tr
  rw [if_neg (by decide), if_neg (by decide), if_neg (by decide), if_pos rfl]
theorem na_0 {L : List Int} {mk : Int → Int} {x : Int} : ab_na L mk 0 x = x := by
  unfold ab_na
  rw [if_pos rfl]
theorem na_1 {L : List Int} {mk : Int → Int} {x : Int} : ab_na L mk 1 x = mk x := by
  unfold ab_na
  rw [if_neg (by decide), if_pos rfl]
theorem na_2 {L : List Int} {mk : Int → Int} {x : Int} : ab_na L mk 2 x = ab_dep L x := by
  unfold ab_na
  rw [if_neg (by decide), if_neg (by decide), if_pos rfl]
theorem na_3 {L : List Int} {mk : Int → Int} {x : Int} : ab_na L mk 3 x = ab_cnt L x := by
  unfold ab_na
  rw [if_neg (by decide), if_neg (by decide), if_neg (by decide), if_pos rfl]
theorem na_4 {L : List Int} {mk : Int → Int} {x : Int} : ab_na L mk 4 x = ab_cntp L mk x := by
  unfold ab_na
  rw [if_neg (by decide), if_neg (by decide), if_neg (by decide), if_neg (by decide)]
theorem nr_0 {T : aT} {k r : Int} (h : ab_le T.1 T.2 k r) : ab_nr T k 0 r := by
  unfold ab_nr
  rw [if_pos rfl]
  exact h
theorem nr_1 {T : aT} {k r : Int} (h : ab_ge T.1 T.2 k r) : ab_nr T k 1 r := by
  unfold ab_nr
  rw [if_neg (by decide), if_pos rfl]
  exact h
theorem nr_2 {T : aT} {k r : Int} (h : ab_le T.1 T.2 (k - 1) r) : ab_nr T k 2 r := by
  unfold ab_nr
  rw [if_neg (by decide), if_neg (by decide), if_pos rfl]
  exact h
theorem nr_3 {T : aT} {k r : Int} (h : ab_ge T.1 T.2 (k + 1) r) : ab_nr T k 3 r := by
  unfold ab_nr
  rw [if_neg (by decide), if_neg (by decide), if_neg (by decide)]
  exact h
abbrev rm_L_isSorted : Room := { frames := 8, cells := 2527, slots := 15162, locals := 127 }
set_option maxHeartbeats 16000000 in
theorem lm_isSorted {l : Launch} (hl0 : l.stackTraces = false) {D : va_G} {t : Nat → ClassId} {hB : Nat} {σ : aW} {ws0 : va_W} (hCW : CW t hB ws0 σ) (hI : ivE σ) : MWi l D t yL_isSorted wsL_isSorted rm_L_isSorted [.ref hB] ws0 idW (po_L t hB (fun r σ1 => r = 1 ∧ σ1 = σ)) 2527 15162 := by
  refine M_ofgz (cc := cL_isSorted) (nL := 7) (by decide) rfl (Nat.le_of_ble_eq_true rfl) ?_
  intro p e s m args below meth c A hc hG hr
  have hg := hI.g
  have hnp := ab_np_le (as_T σ.1).1 (as_T σ.1).2
  obtain ⟨N, hN⟩ := Int.eq_ofNat_of_zero_le hnp.1
  have hlen := hg.2.2.1
  obtain ⟨M, hM⟩ : ∃ M, (as_T σ.1).1.length = M := ⟨_, rfl⟩
  rw [hM] at hlen
  have hNM : N ≤ M := by omega
  have FIN : ∀ (w : va_W), CW t hB w σ → V p l e rm_L_isSorted s m args below meth c D A 7 2523 15138 (MQ below (QI D A idW (po_L t hB (fun r σ1 => r = 1 ∧ σ1 = σ))) args s 2527 15162 A) 254 [(0, .ref hB), (1, .int (iI (N : Int))), (2, .int (iI (so_p (as_T σ.1).1 (as_T σ.1).2 N))), (3, .int (iI 1)), (4, .int (iI (so_m (as_T σ.1).1 (as_T σ.1).2 M)))] [] w := by
    intro w hW
    have hm9 := so_m_end hg
    rw [hM] at hm9
    have hm8 : 0 ≤ so_m (as_T σ.1).1 (as_T σ.1).2 M ∧ so_m (as_T σ.1).1 (as_T σ.1).2 M ≤ (M : Int) := so_m_le M
    rcases Nat.eq_zero_or_pos N with hN0 | hN0
    · refine V_iload_n hc dL_isSorted_254 3 rfl ?_
      refine V_if_eq (tgt := 302) (X := False) (Y := True) hc dL_isSorted_255 (by decide) ⟨by decide, fun h => absurd h (by decide), fun _ => trivial⟩ (fun h => h.elim) (fun _ => ?_)
      refine V_iload hc dL_isSorted_258 4 rfl ?_
      refine V_aload_n hc dL_isSorted_260 0 rfl ?_
      refine V_iconst hc dL_isSorted_261 ?_
      refine V_iconst hc dL_isSorted_262 ?_
      refine V_fd (As := [.int (iI 0), .int (iI 2)]) hc (fc_tree hl0 hW hI (by decide) (by decide)) (fun j h9 => h9.2.1 ⟨by decide, by decide⟩) ((M : Int) - (N : Int)) σ (fun r σ2 h9 => ⟨(h9.2.1.trans (if_pos rfl)).trans (tr_2.trans (by rw [hM, hN])), h9.2.2⟩) rfl gL_isSorted_X4_tree rfl ⟨rfl, rfl⟩ ok_X4_tree ⟨Nat.le_of_ble_eq_true rfl, Nat.le_of_ble_eq_true rfl⟩ (Nat.le_of_ble_eq_true rfl) dL_isSorted_263 ⟨Nat.le_of_ble_eq_true rfl, Nat.le_of_ble_eq_true rfl⟩ (fun w1 hW1 => ?_)
      refine V_neF (tgt := 302) hc dL_isSorted_266 (by decide) (by omega) ?_
      refine V_aload_n hc dL_isSorted_269 0 rfl ?_
      refine V_iconst hc dL_isSorted_270 ?_
      refine V_iconst hc dL_isSorted_271 ?_
      refine V_fd (As := [.int (iI 0), .int (iI 0)]) hc (fc_tree hl0 hW1 hI (by decide) (by decide)) (fun j h9 => h9.2.1 ⟨by decide, by decide⟩) (M : Int) σ (fun r σ2 h9 => ⟨(h9.2.1.trans (if_pos rfl)).trans (tr_0.trans (by rw [hM])), h9.2.2⟩) rfl gL_isSorted_X4_tree rfl ⟨rfl, rfl⟩ ok_X4_tree ⟨Nat.le_of_ble_eq_true rfl, Nat.le_of_ble_eq_true rfl⟩ (Nat.le_of_ble_eq_true rfl) dL_isSorted_272 ⟨Nat.le_of_ble_eq_true rfl, Nat.le_of_ble_eq_true rfl⟩ (fun w2 hW2 => ?_)
      refine V_iload_n hc dL_isSorted_275 1 rfl ?_
      refine V_iload hc dL_isSorted_276 4 rfl ?_
      refine V_iadd hc dL_isSorted_278 ?_
      refine V_neF (tgt := 302) hc dL_isSorted_279 (by decide) (by omega) ?_
      refine V_iload_n hc dL_isSorted_282 1 rfl ?_
      refine V_if_eq (tgt := 298) (X := True) (Y := False) hc dL_isSorted_283 (by decide) ⟨by omega, fun _ => trivial, fun h => h (by omega)⟩ (fun _ => ?_) (fun h => h.elim)
      refine V_iconst hc dL_isSorted_298 ?_
      refine V_goto (tgt := 303) hc dL_isSorted_299 (by decide) ?_
      refine V_widen (k1 := 2527) (n1 := 15162) (Nat.le_of_ble_eq_true rfl) (Nat.le_of_ble_eq_true rfl) ?_
      exact V_zret hc hr w2 ⟨Or.inr rfl, σ, ⟨rfl, rfl⟩, hW2⟩ rfl dL_isSorted_303
    · have htop : ab_le (as_T σ.1).1 (as_T σ.1).2 499 (so_p (as_T σ.1).1 (as_T σ.1).2 N) := by
        obtain ⟨r9, rfl⟩ : ∃ r9, N = r9 + 1 := ⟨N - 1, by omega⟩
        exact so_top hg (by omega)
      refine V_iload_n hc dL_isSorted_254 3 rfl ?_
      refine V_if_eq (tgt := 302) (X := False) (Y := True) hc dL_isSorted_255 (by decide) ⟨by decide, fun h => absurd h (by decide), fun _ => trivial⟩ (fun h => h.elim) (fun _ => ?_)
      refine V_iload hc dL_isSorted_258 4 rfl ?_
      refine V_aload_n hc dL_isSorted_260 0 rfl ?_
      refine V_iconst hc dL_isSorted_261 ?_
      refine V_iconst hc dL_isSorted_262 ?_
      refine V_fd (As := [.int (iI 0), .int (iI 2)]) hc (fc_tree hl0 hW hI (by decide) (by decide)) (fun j h9 => h9.2.1 ⟨by decide, by decide⟩) ((M : Int) - (N : Int)) σ (fun r σ2 h9 => ⟨(h9.2.1.trans (if_pos rfl)).trans (tr_2.trans (by rw [hM, hN])), h9.2.2⟩) rfl gL_isSorted_X4_tree rfl ⟨rfl, rfl⟩ ok_X4_tree ⟨Nat.le_of_ble_eq_true rfl, Nat.le_of_ble_eq_true rfl⟩ (Nat.le_of_ble_eq_true rfl) dL_isSorted_263 ⟨Nat.le_of_ble_eq_true rfl, Nat.le_of_ble_eq_true rfl⟩ (fun w1 hW1 => ?_)
      refine V_neF (tgt := 302) hc dL_isSorted_266 (by decide) (by omega) ?_
      refine V_aload_n hc dL_isSorted_269 0 rfl ?_
      refine V_iconst hc dL_isSorted_270 ?_
      refine V_iconst hc dL_isSorted_271 ?_
      refine V_fd (As := [.int (iI 0), .int (iI 0)]) hc (fc_tree hl0 hW1 hI (by decide) (by decide)) (fun j h9 => h9.2.1 ⟨by decide, by decide⟩) (M : Int) σ (fun r σ2 h9 => ⟨(h9.2.1.trans (if_pos rfl)).trans (tr_0.trans (by rw [hM])), h9.2.2⟩) rfl gL_isSorted_X4_tree rfl ⟨rfl, rfl⟩ ok_X4_tree ⟨Nat.le_of_ble_eq_true rfl, Nat.le_of_ble_eq_true rfl⟩ (Nat.le_of_ble_eq_true rfl) dL_isSorted_272 ⟨Nat.le_of_ble_eq_true rfl, Nat.le_of_ble_eq_true rfl⟩ (fun w2 hW2 => ?_)
      refine V_iload_n hc dL_isSorted_275 1 rfl ?_
      refine V_iload hc dL_isSorted_276 4 rfl ?_
      refine V_iadd hc dL_isSorted_278 ?_
      refine V_neF (tgt := 302) hc dL_isSorted_279 (by decide) (by omega) ?_
      refine V_iload_n hc dL_isSorted_282 1 rfl ?_
      refine V_if_eq (tgt := 298) (X := False) (Y := True) hc dL_isSorted_283 (by decide) ⟨by omega, fun h => absurd h (by omega), fun _ => trivial⟩ (fun h => h.elim) (fun _ => ?_)
      refine V_aload_n hc dL_isSorted_286 0 rfl ?_
      refine V_sipush hc dL_isSorted_287 (by decide) ?_
      refine V_iconst hc dL_isSorted_290 ?_
      refine V_fd (As := [.int (iI 499), .int (iI 0)]) hc (fc_near hl0 hW2 hI (by decide) (by decide)) (fun j h9 => h9.2.1 ⟨⟨by omega, by omega⟩, by decide, by decide⟩) (so_p (as_T σ.1).1 (as_T σ.1).2 N) σ (fun r σ2 h9 => ⟨ab_nr_un hg h9.2.1 (nr_0 (htop)), h9.2.2⟩) rfl gL_isSorted_X4_near rfl ⟨rfl, rfl⟩ ok_X4_near ⟨Nat.le_of_ble_eq_true rfl, Nat.le_of_ble_eq_true rfl⟩ (Nat.le_of_ble_eq_true rfl) dL_isSorted_291 ⟨Nat.le_of_ble_eq_true rfl, Nat.le_of_ble_eq_true rfl⟩ (fun w3 hW3 => ?_)
      refine V_iload_n hc dL_isSorted_294 2 rfl ?_
      refine V_neF (tgt := 302) hc dL_isSorted_295 (by decide) rfl ?_
      refine V_iconst hc dL_isSorted_298 ?_
      refine V_goto (tgt := 303) hc dL_isSorted_299 (by decide) ?_
      refine V_widen (k1 := 2527) (n1 := 15162) (Nat.le_of_ble_eq_true rfl) (Nat.le_of_ble_eq_true rfl) ?_
      exact V_zret hc hr w3 ⟨Or.inr rfl, σ, ⟨rfl, rfl⟩, hW3⟩ rfl dL_isSorted_303
  have L2 : ∀ (n k : Nat) (w : va_W), k + n = M → CW t hB w σ → V p l e rm_L_isSorted s m args below meth c D A 7 (1322 + 10 * k) (7932 + 60 * k) (MQ below (QI D A idW (po_L t hB (fun r σ1 => r = 1 ∧ σ1 = σ))) args s 2527 15162 A) 142 [(0, .ref hB), (1, .int (iI (N : Int))), (2, .int (iI (so_p (as_T σ.1).1 (as_T σ.1).2 N))), (3, .int (iI 1)), (4, .int (iI (so_m (as_T σ.1).1 (as_T σ.1).2 k))), (5, .int (iI ((k : Nat) : Int)))] [] w := by
    intro n
    induction n with
    | zero =>
      intro k w hk hW
      obtain rfl : k = M := by omega
      have hm8 : 0 ≤ so_m (as_T σ.1).1 (as_T σ.1).2 k ∧ so_m (as_T σ.1).1 (as_T σ.1).2 k ≤ (k : Int) := so_m_le k
      refine V_iload hc dL_isSorted_142 5 rfl ?_
      refine V_aload_n hc dL_isSorted_144 0 rfl ?_
      refine V_iconst hc dL_isSorted_145 ?_
      refine V_iconst hc dL_isSorted_146 ?_
      refine V_fd (As := [.int (iI 0), .int (iI 0)]) hc (fc_tree hl0 hW hI (by decide) (by decide)) (fun j h9 => h9.2.1 ⟨by decide, by decide⟩) (k : Int) σ (fun r σ2 h9 => ⟨(h9.2.1.trans (if_pos rfl)).trans (tr_0.trans (by rw [hM])), h9.2.2⟩) rfl gL_isSorted_X4_tree rfl ⟨rfl, rfl⟩ ok_X4_tree ⟨Nat.le_of_ble_eq_true rfl, Nat.le_of_ble_eq_true rfl⟩ (Nat.le_of_ble_eq_true rfl) dL_isSorted_147 ⟨Nat.le_trans (m := 2527) (by omega) (Nat.le_of_ble_eq_true rfl), Nat.le_trans (m := 15162) (by omega) (Nat.le_of_ble_eq_true rfl)⟩ (fun w1 hW1 => ?_)
      refine V_icmp_ge (tgt := 254) (X := True) (Y := False) hc dL_isSorted_150 (by decide) ⟨by omega, by omega, fun _ => trivial, fun h => h (by omega)⟩ (fun _ => ?_) (fun h => h.elim)
      refine V_lv [0, 1, 2, 3, 4] [(0, .ref hB), (1, .int (iI (N : Int))), (2, .int (iI (so_p (as_T σ.1).1 (as_T σ.1).2 N))), (3, .int (iI 1)), (4, .int (iI (so_m (as_T σ.1).1 (as_T σ.1).2 k)))] rfl ?_
      refine V_widen (k1 := 2523) (n1 := 15138) (by omega) (by omega) ?_
      exact FIN _ hW1
    | succ n ih =>
      intro k w hk hW
      obtain ⟨x, hx, hnode, hd, hct, hcp, hpath, hxr, hmk⟩ := so_node hg (n := k) (by omega)
      have hm8 : 0 ≤ so_m (as_T σ.1).1 (as_T σ.1).2 k ∧ so_m (as_T σ.1).1 (as_T σ.1).2 k ≤ (k : Int) := so_m_le k
      refine V_iload hc dL_isSorted_142 5 rfl ?_
      refine V_aload_n hc dL_isSorted_144 0 rfl ?_
      refine V_iconst hc dL_isSorted_145 ?_
      refine V_iconst hc dL_isSorted_146 ?_
      refine V_fd (As := [.int (iI 0), .int (iI 0)]) hc (fc_tree hl0 hW hI (by decide) (by decide)) (fun j h9 => h9.2.1 ⟨by decide, by decide⟩) (M : Int) σ (fun r σ2 h9 => ⟨(h9.2.1.trans (if_pos rfl)).trans (tr_0.trans (by rw [hM])), h9.2.2⟩) rfl gL_isSorted_X4_tree rfl ⟨rfl, rfl⟩ ok_X4_tree ⟨Nat.le_of_ble_eq_true rfl, Nat.le_of_ble_eq_true rfl⟩ (Nat.le_of_ble_eq_true rfl) dL_isSorted_147 ⟨Nat.le_trans (m := 2527) (by omega) (Nat.le_of_ble_eq_true rfl), Nat.le_trans (m := 15162) (by omega) (Nat.le_of_ble_eq_true rfl)⟩ (fun w1 hW1 => ?_)
      refine V_icmp_ge (tgt := 254) (X := False) (Y := True) hc dL_isSorted_150 (by decide) ⟨by omega, by omega, fun h => absurd h (by omega), fun _ => trivial⟩ (fun h => h.elim) (fun _ => ?_)
      refine V_iload_n hc dL_isSorted_153 3 rfl ?_
      refine V_if_eq (tgt := 254) (X := False) (Y := True) hc dL_isSorted_154 (by decide) ⟨by decide, fun h => absurd h (by decide), fun _ => trivial⟩ (fun h => h.elim) (fun _ => ?_)
      refine V_aload_n hc dL_isSorted_157 0 rfl ?_
      refine V_iconst hc dL_isSorted_158 ?_
      refine V_iload hc dL_isSorted_159 5 rfl ?_
      refine V_iconst hc dL_isSorted_161 ?_
      refine V_fd (As := [.int (iI 0), .int (iI ((k : Nat) : Int)), .int (iI 3)]) hc (fc_node hl0 hW1 hI (by decide) (by omega) (by decide)) (fun j h9 => h9.2.1 ⟨by omega, by decide, by decide⟩) (ab_cnt (as_T σ.1).1 x) σ (fun r σ2 h9 => ⟨((h9.2.1.trans (if_pos rfl)).trans (hnode 3)).trans na_3, h9.2.2⟩) rfl gL_isSorted_X4_node rfl ⟨rfl, rfl⟩ ok_X4_node ⟨Nat.le_of_ble_eq_true rfl, Nat.le_of_ble_eq_true rfl⟩ (Nat.le_of_ble_eq_true rfl) dL_isSorted_162 ⟨Nat.le_trans (m := 2527) (by omega) (Nat.le_of_ble_eq_true rfl), Nat.le_trans (m := 15162) (by omega) (Nat.le_of_ble_eq_true rfl)⟩ (fun w2 hW2 => ?_)
      refine V_istore hc dL_isSorted_165 [(6, .int (iI (ab_cnt (as_T σ.1).1 x))), (0, .ref hB), (1, .int (iI (N : Int))), (2, .int (iI (so_p (as_T σ.1).1 (as_T σ.1).2 N))), (3, .int (iI 1)), (4, .int (iI (so_m (as_T σ.1).1 (as_T σ.1).2 k))), (5, .int (iI ((k : Nat) : Int)))] (Nat.le_of_ble_eq_true rfl) rfl ?_
      refine V_iload hc dL_isSorted_167 5 rfl ?_
      refine V_aload_n hc dL_isSorted_169 1 rfl ?_
      refine V_iconst hc dL_isSorted_170 ?_
      refine V_iload hc dL_isSorted_171 6 rfl ?_
      refine V_iconst hc dL_isSorted_173 ?_
      refine V_fd (As := [.int (iI 0), .int (iI ((k : Nat) : Int)), .int (iI 1)]) hc (fc_node hl0 hW2 hI (by decide) (by omega) (by decide)) (fun j h9 => h9.2.1 ⟨by omega, by decide, by decide⟩) ((as_T σ.1).2 x) σ (fun r σ2 h9 => ⟨((h9.2.1.trans (if_pos rfl)).trans (hnode 1)).trans na_1, h9.2.2⟩) rfl gL_isSorted_X4_node rfl ⟨rfl, rfl⟩ ok_X4_node ⟨Nat.le_of_ble_eq_true rfl, Nat.le_of_ble_eq_true rfl⟩ (Nat.le_of_ble_eq_true rfl) dL_isSorted_174 ⟨Nat.le_trans (m := 2527) (by omega) (Nat.le_of_ble_eq_true rfl), Nat.le_trans (m := 15162) (by omega) (Nat.le_of_ble_eq_true rfl)⟩ (fun w3 hW3 => ?_)
      refine V_iadd hc dL_isSorted_177 ?_
      refine V_istore hc dL_isSorted_178 [(4, .int (iI ((so_m (as_T σ.1).1 (as_T σ.1).2 k) + ((as_T σ.1).2 x)))), (6, .int (iI (ab_cnt (as_T σ.1).1 x))), (0, .ref hB), (1, .int (iI (N : Int))), (2, .int (iI (so_p (as_T σ.1).1 (as_T σ.1).2 N))), (3, .int (iI 1)), (5, .int (iI ((k : Nat) : Int)))] (Nat.le_of_ble_eq_true rfl) rfl ?_
      refine V_aload_n hc dL_isSorted_180 2 rfl ?_
      refine V_iconst hc dL_isSorted_181 ?_
      refine V_iload hc dL_isSorted_182 6 rfl ?_
      refine V_iconst hc dL_isSorted_184 ?_
      refine V_fd (As := [.int (iI 0), .int (iI ((k : Nat) : Int)), .int (iI 2)]) hc (fc_node hl0 hW3 hI (by decide) (by omega) (by decide)) (fun j h9 => h9.2.1 ⟨by omega, by decide, by decide⟩) (ab_dep (as_T σ.1).1 x) σ (fun r σ2 h9 => ⟨((h9.2.1.trans (if_pos rfl)).trans (hnode 2)).trans na_2, h9.2.2⟩) rfl gL_isSorted_X4_node rfl ⟨rfl, rfl⟩ ok_X4_node ⟨Nat.le_of_ble_eq_true rfl, Nat.le_of_ble_eq_true rfl⟩ (Nat.le_of_ble_eq_true rfl) dL_isSorted_185 ⟨Nat.le_trans (m := 2527) (by omega) (Nat.le_of_ble_eq_true rfl), Nat.le_trans (m := 15162) (by omega) (Nat.le_of_ble_eq_true rfl)⟩ (fun w4 hW4 => ?_)
      refine V_if_le (tgt := 246) (X := False) (Y := True) hc dL_isSorted_188 (by decide) ⟨by omega, fun h => absurd h (by omega), fun _ => trivial⟩ (fun h => h.elim) (fun _ => ?_)
      refine V_iload hc dL_isSorted_191 1 rfl ?_
      refine V_if_le (tgt := 246) (X := False) (Y := True) hc dL_isSorted_193 (by decide) ⟨by omega, fun h => absurd h (by omega), fun _ => trivial⟩ (fun h => h.elim) (fun _ => ?_)
      refine V_aload_n hc dL_isSorted_196 2 rfl ?_
      refine V_iconst hc dL_isSorted_197 ?_
      refine V_iload hc dL_isSorted_198 6 rfl ?_
      refine V_iconst hc dL_isSorted_200 ?_
      refine V_fd (As := [.int (iI 0), .int (iI ((k : Nat) : Int)), .int (iI 4)]) hc (fc_node hl0 hW4 hI (by decide) (by omega) (by decide)) (fun j h9 => h9.2.1 ⟨by omega, by decide, by decide⟩) (ab_cntp (as_T σ.1).1 (as_T σ.1).2 x) σ (fun r σ2 h9 => ⟨((h9.2.1.trans (if_pos rfl)).trans (hnode 4)).trans na_4, h9.2.2⟩) rfl gL_isSorted_X4_node rfl ⟨rfl, rfl⟩ ok_X4_node ⟨Nat.le_of_ble_eq_true rfl, Nat.le_of_ble_eq_true rfl⟩ (Nat.le_of_ble_eq_true rfl) dL_isSorted_201 ⟨Nat.le_trans (m := 2527) (by omega) (Nat.le_of_ble_eq_true rfl), Nat.le_trans (m := 15162) (by omega) (Nat.le_of_ble_eq_true rfl)⟩ (fun w5 hW5 => ?_)
      refine V_iload hc dL_isSorted_204 1 rfl ?_
      refine V_icmp_gt (tgt := 246) (X := False) (Y := True) hc dL_isSorted_206 (by decide) ⟨by omega, by omega, fun h => absurd h (by omega), fun _ => trivial⟩ (fun h => h.elim) (fun _ => ?_)
      refine V_aload_n hc dL_isSorted_209 2 rfl ?_
      refine V_aload_n hc dL_isSorted_210 2 rfl ?_
      refine V_iconst hc dL_isSorted_211 ?_
      refine V_iload hc dL_isSorted_212 6 rfl ?_
      refine V_iconst hc dL_isSorted_214 ?_
      refine V_fd (As := [.int (iI 0), .int (iI ((k : Nat) : Int)), .int (iI 0)]) hc (fc_node hl0 hW5 hI (by decide) (by omega) (by decide)) (fun j h9 => h9.2.1 ⟨by omega, by decide, by decide⟩) x σ (fun r σ2 h9 => ⟨((h9.2.1.trans (if_pos rfl)).trans (hnode 0)).trans na_0, h9.2.2⟩) rfl gL_isSorted_X4_node rfl ⟨rfl, rfl⟩ ok_X4_node ⟨Nat.le_of_ble_eq_true rfl, Nat.le_of_ble_eq_true rfl⟩ (Nat.le_of_ble_eq_true rfl) dL_isSorted_215 ⟨Nat.le_trans (m := 2527) (by omega) (Nat.le_of_ble_eq_true rfl), Nat.le_trans (m := 15162) (by omega) (Nat.le_of_ble_eq_true rfl)⟩ (fun w6 hW6 => ?_)
      refine V_aload_n hc dL_isSorted_218 2 rfl ?_
      refine V_iconst hc dL_isSorted_219 ?_
      refine V_iload hc dL_isSorted_220 6 rfl ?_
      refine V_iconst hc dL_isSorted_222 ?_
      refine V_fd (As := [.int (iI 0), .int (iI ((k : Nat) : Int)), .int (iI 2)]) hc (fc_node hl0 hW6 hI (by decide) (by omega) (by decide)) (fun j h9 => h9.2.1 ⟨by omega, by decide, by decide⟩) (ab_dep (as_T σ.1).1 x) σ (fun r σ2 h9 => ⟨((h9.2.1.trans (if_pos rfl)).trans (hnode 2)).trans na_2, h9.2.2⟩) rfl gL_isSorted_X4_node rfl ⟨rfl, rfl⟩ ok_X4_node ⟨Nat.le_of_ble_eq_true rfl, Nat.le_of_ble_eq_true rfl⟩ (Nat.le_of_ble_eq_true rfl) dL_isSorted_223 ⟨Nat.le_trans (m := 2527) (by omega) (Nat.le_of_ble_eq_true rfl), Nat.le_trans (m := 15162) (by omega) (Nat.le_of_ble_eq_true rfl)⟩ (fun w7 hW7 => ?_)
      refine V_iconst hc dL_isSorted_226 ?_
      refine V_isub hc dL_isSorted_227 ?_
      refine V_fd (As := [.int (iI x), .int (iI ((ab_dep (as_T σ.1).1 x) - 1))]) hc (fc_path hl0 hW7 hI (by omega) (by omega)) (fun j h9 => h9.2.1 ⟨⟨by omega, by omega⟩, by omega⟩) x σ (fun r σ2 h9 => ⟨h9.2.1.trans hpath, h9.2.2⟩) rfl gL_isSorted_X4_path rfl ⟨rfl, rfl⟩ ok_X4_path ⟨Nat.le_of_ble_eq_true rfl, Nat.le_of_ble_eq_true rfl⟩ (Nat.le_of_ble_eq_true rfl) dL_isSorted_228 ⟨Nat.le_trans (m := 2527) (by omega) (Nat.le_of_ble_eq_true rfl), Nat.le_trans (m := 15162) (by omega) (Nat.le_of_ble_eq_true rfl)⟩ (fun w8 hW8 => ?_)
      refine V_aload_n hc dL_isSorted_231 2 rfl ?_
      refine V_iconst hc dL_isSorted_232 ?_
      refine V_iload hc dL_isSorted_233 6 rfl ?_
      refine V_iconst hc dL_isSorted_235 ?_
      refine V_fd (As := [.int (iI 0), .int (iI ((k : Nat) : Int)), .int (iI 0)]) hc (fc_node hl0 hW8 hI (by decide) (by omega) (by decide)) (fun j h9 => h9.2.1 ⟨by omega, by decide, by decide⟩) x σ (fun r σ2 h9 => ⟨((h9.2.1.trans (if_pos rfl)).trans (hnode 0)).trans na_0, h9.2.2⟩) rfl gL_isSorted_X4_node rfl ⟨rfl, rfl⟩ ok_X4_node ⟨Nat.le_of_ble_eq_true rfl, Nat.le_of_ble_eq_true rfl⟩ (Nat.le_of_ble_eq_true rfl) dL_isSorted_236 ⟨Nat.le_trans (m := 2527) (by omega) (Nat.le_of_ble_eq_true rfl), Nat.le_trans (m := 15162) (by omega) (Nat.le_of_ble_eq_true rfl)⟩ (fun w9 hW9 => ?_)
      refine V_neF (tgt := 246) hc dL_isSorted_239 (by decide) rfl ?_
      refine V_iconst hc dL_isSorted_242 ?_
      refine V_goto (tgt := 247) hc dL_isSorted_243 (by decide) ?_
      refine V_istore_n hc dL_isSorted_247 [(3, .int (iI 1)), (4, .int (iI ((so_m (as_T σ.1).1 (as_T σ.1).2 k) + ((as_T σ.1).2 x)))), (6, .int (iI (ab_cnt (as_T σ.1).1 x))), (0, .ref hB), (1, .int (iI (N : Int))), (2, .int (iI (so_p (as_T σ.1).1 (as_T σ.1).2 N))), (5, .int (iI ((k : Nat) : Int)))] (Nat.le_of_ble_eq_true rfl) rfl ?_
      refine V_iinc hc dL_isSorted_248 6 rfl [(5, .int (iI (((k : Nat) : Int) + 1))), (3, .int (iI 1)), (4, .int (iI ((so_m (as_T σ.1).1 (as_T σ.1).2 k) + ((as_T σ.1).2 x)))), (6, .int (iI (ab_cnt (as_T σ.1).1 x))), (0, .ref hB), (1, .int (iI (N : Int))), (2, .int (iI (so_p (as_T σ.1).1 (as_T σ.1).2 N)))] (Nat.le_of_ble_eq_true rfl) rfl ?_
      refine V_goto (tgt := 142) hc dL_isSorted_251 (by decide) ?_
      refine V_lv [4, 5, 6, 1, 2, 0] [(0, .ref hB), (1, .int (iI (N : Int))), (2, .int (iI (so_p (as_T σ.1).1 (as_T σ.1).2 N))), (3, .int (iI 1)), (4, .int (iI (so_m (as_T σ.1).1 (as_T σ.1).2 (k + 1)))), (5, .int (iI (((k + 1) : Nat) : Int)))] (by rw [so_m_s hg hx]; rfl) ?_
      refine V_widen (k1 := 1322 + 10 * (k + 1)) (n1 := 7932 + 60 * (k + 1)) (by omega) (by omega) ?_
      exact ih (k + 1) _ (by omega) hW9
  have L1 : ∀ (n k : Nat) (w : va_W), k + n = N → CW t hB w σ → V p l e rm_L_isSorted s m args below meth c D A 7 (2 + 11 * k) (12 + 66 * k) (MQ below (QI D A idW (po_L t hB (fun r σ1 => r = 1 ∧ σ1 = σ))) args s 2527 15162 A) 27 [(0, .ref hB), (1, .int (iI (N : Int))), (2, .int (iI (so_p (as_T σ.1).1 (as_T σ.1).2 k))), (3, .int (iI 1)), (4, .int (iI ((k : Nat) : Int)))] [] w := by
    intro n
    induction n with
    | zero =>
      intro k w hk hW
      obtain rfl : k = N := by omega
      refine V_iload hc dL_isSorted_27 4 rfl ?_
      refine V_iload_n hc dL_isSorted_29 1 rfl ?_
      refine V_icmp_ge (tgt := 136) (X := True) (Y := False) hc dL_isSorted_30 (by decide) ⟨by omega, by omega, fun _ => trivial, fun h => h (by omega)⟩ (fun _ => ?_) (fun h => h.elim)
      refine V_iconst hc dL_isSorted_136 ?_
      refine V_istore hc dL_isSorted_137 [(4, .int (iI 0)), (0, .ref hB), (1, .int (iI (k : Int))), (2, .int (iI (so_p (as_T σ.1).1 (as_T σ.1).2 k))), (3, .int (iI 1))] (Nat.le_of_ble_eq_true rfl) rfl ?_
      refine V_iconst hc dL_isSorted_139 ?_
      refine V_istore hc dL_isSorted_140 [(5, .int (iI 0)), (4, .int (iI 0)), (0, .ref hB), (1, .int (iI (k : Int))), (2, .int (iI (so_p (as_T σ.1).1 (as_T σ.1).2 k))), (3, .int (iI 1))] (Nat.le_of_ble_eq_true rfl) rfl ?_
      refine V_lv [2, 3, 4, 5, 1, 0] [(0, .ref hB), (1, .int (iI (k : Int))), (2, .int (iI (so_p (as_T σ.1).1 (as_T σ.1).2 k))), (3, .int (iI 1)), (4, .int (iI (so_m (as_T σ.1).1 (as_T σ.1).2 0))), (5, .int (iI ((0 : Nat) : Int)))] rfl ?_
      refine V_widen (k1 := 1322 + 10 * 0) (n1 := 7932 + 60 * 0) (by omega) (by omega) ?_
      exact L2 M 0 w (by omega) hW
    | succ n ih =>
      intro k w hk hW
      have hky := so_key hg (r := k) (by omega)
      have hkr := so_k_rng hg (r := k) (by omega)
      have hkg := so_gt hg (r := k) (by omega)
      have hpr := so_p_rng hg (r := k) (by omega)
      cases k with
      | zero =>
        have hp0 : so_p (as_T σ.1).1 (as_T σ.1).2 0 = -1 := rfl
        refine V_iload hc dL_isSorted_27 4 rfl ?_
        refine V_iload_n hc dL_isSorted_29 1 rfl ?_
        refine V_icmp_ge (tgt := 136) (X := False) (Y := True) hc dL_isSorted_30 (by decide) ⟨by omega, by omega, fun h => absurd h (by omega), fun _ => trivial⟩ (fun h => h.elim) (fun _ => ?_)
        refine V_iload_n hc dL_isSorted_33 3 rfl ?_
        refine V_if_eq (tgt := 136) (X := False) (Y := True) hc dL_isSorted_34 (by decide) ⟨by decide, fun h => absurd h (by decide), fun _ => trivial⟩ (fun h => h.elim) (fun _ => ?_)
        refine V_aload_n hc dL_isSorted_37 0 rfl ?_
        refine V_iload hc dL_isSorted_38 4 rfl ?_
        refine V_fd (As := [.int (iI ((0 : Nat) : Int))]) hc (fc_keyAt hl0 hW hI (by omega)) (fun j h9 => by have h8 := h9.2.1; omega) (so_k (as_T σ.1).1 (as_T σ.1).2 0) σ (fun r σ2 h9 => ⟨ab_kat_un hg.1 h9.2.1 (so_kat hg (by omega)), h9.2.2⟩) rfl gL_isSorted_X4_keyAt rfl ⟨rfl, rfl⟩ ok_X4_keyAt ⟨Nat.le_of_ble_eq_true rfl, Nat.le_of_ble_eq_true rfl⟩ (Nat.le_of_ble_eq_true rfl) dL_isSorted_40 ⟨Nat.le_trans (m := 2527) (by omega) (Nat.le_of_ble_eq_true rfl), Nat.le_trans (m := 15162) (by omega) (Nat.le_of_ble_eq_true rfl)⟩ (fun w1 hW1 => ?_)
        refine V_istore hc dL_isSorted_43 [(5, .int (iI (so_k (as_T σ.1).1 (as_T σ.1).2 0))), (0, .ref hB), (1, .int (iI (N : Int))), (2, .int (iI (so_p (as_T σ.1).1 (as_T σ.1).2 0))), (3, .int (iI 1)), (4, .int (iI ((0 : Nat) : Int)))] (Nat.le_of_ble_eq_true rfl) rfl ?_
        refine V_iload hc dL_isSorted_45 0 rfl ?_
        refine V_iload_n hc dL_isSorted_47 3 rfl ?_
        refine V_icmp_le (tgt := 125) (X := False) (Y := True) hc dL_isSorted_48 (by decide) ⟨by omega, by omega, fun h => absurd h (by omega), fun _ => trivial⟩ (fun h => h.elim) (fun _ => ?_)
        refine V_aload_n hc dL_isSorted_51 1 rfl ?_
        refine V_iload hc dL_isSorted_52 0 rfl ?_
        refine V_fd (As := [.int (iI (so_k (as_T σ.1).1 (as_T σ.1).2 0))]) hc (fc_contains hl0 hW1 hI (by omega)) (fun j h9 => h9.2.1 ⟨by omega, by omega⟩) 1 σ (fun r σ2 h9 => ⟨h9.2.2.1.mpr hky.1, h9.2.2.2⟩) rfl gL_isSorted_X4_contains rfl ⟨rfl, rfl⟩ ok_X4_contains ⟨Nat.le_of_ble_eq_true rfl, Nat.le_of_ble_eq_true rfl⟩ (Nat.le_of_ble_eq_true rfl) dL_isSorted_54 ⟨Nat.le_trans (m := 2527) (by omega) (Nat.le_of_ble_eq_true rfl), Nat.le_trans (m := 15162) (by omega) (Nat.le_of_ble_eq_true rfl)⟩ (fun w2 hW2 => ?_)
        refine V_if_eq (tgt := 125) (X := False) (Y := True) hc dL_isSorted_57 (by decide) ⟨by decide, fun h => absurd h (by decide), fun _ => trivial⟩ (fun h => h.elim) (fun _ => ?_)
        refine V_aload_n hc dL_isSorted_60 1 rfl ?_
        refine V_iload hc dL_isSorted_61 0 rfl ?_
        refine V_fd (As := [.int (iI (so_k (as_T σ.1).1 (as_T σ.1).2 0))]) hc (fc_rank hl0 hW2 hI (by omega)) (fun j h9 => h9.2.1 ⟨by omega, by omega⟩) ((0 : Nat) : Int) σ (fun r σ2 h9 => ⟨h9.2.1.trans hky.2, h9.2.2⟩) rfl gL_isSorted_X4_rank rfl ⟨rfl, rfl⟩ ok_X4_rank ⟨Nat.le_of_ble_eq_true rfl, Nat.le_of_ble_eq_true rfl⟩ (Nat.le_of_ble_eq_true rfl) dL_isSorted_63 ⟨Nat.le_trans (m := 2527) (by omega) (Nat.le_of_ble_eq_true rfl), Nat.le_trans (m := 15162) (by omega) (Nat.le_of_ble_eq_true rfl)⟩ (fun w3 hW3 => ?_)
        refine V_iload hc dL_isSorted_66 5 rfl ?_
        refine V_neF (tgt := 125) hc dL_isSorted_68 (by decide) rfl ?_
        refine V_aload_n hc dL_isSorted_71 1 rfl ?_
        refine V_iload hc dL_isSorted_72 0 rfl ?_
        refine V_iconst hc dL_isSorted_74 ?_
        refine V_fd (As := [.int (iI (so_k (as_T σ.1).1 (as_T σ.1).2 0)), .int (iI 0)]) hc (fc_near hl0 hW3 hI (by omega) (by decide)) (fun j h9 => h9.2.1 ⟨⟨by omega, by omega⟩, by decide, by decide⟩) (so_k (as_T σ.1).1 (as_T σ.1).2 0) σ (fun r σ2 h9 => ⟨ab_nr_un hg h9.2.1 (nr_0 (so_n0 hg (by omega))), h9.2.2⟩) rfl gL_isSorted_X4_near rfl ⟨rfl, rfl⟩ ok_X4_near ⟨Nat.le_of_ble_eq_true rfl, Nat.le_of_ble_eq_true rfl⟩ (Nat.le_of_ble_eq_true rfl) dL_isSorted_75 ⟨Nat.le_trans (m := 2527) (by omega) (Nat.le_of_ble_eq_true rfl), Nat.le_trans (m := 15162) (by omega) (Nat.le_of_ble_eq_true rfl)⟩ (fun w4 hW4 => ?_)
        refine V_iload hc dL_isSorted_78 0 rfl ?_
        refine V_neF (tgt := 125) hc dL_isSorted_80 (by decide) rfl ?_
        refine V_aload_n hc dL_isSorted_83 1 rfl ?_
        refine V_iload hc dL_isSorted_84 0 rfl ?_
        refine V_iconst hc dL_isSorted_86 ?_
        refine V_fd (As := [.int (iI (so_k (as_T σ.1).1 (as_T σ.1).2 0)), .int (iI 1)]) hc (fc_near hl0 hW4 hI (by omega) (by decide)) (fun j h9 => h9.2.1 ⟨⟨by omega, by omega⟩, by decide, by decide⟩) (so_k (as_T σ.1).1 (as_T σ.1).2 0) σ (fun r σ2 h9 => ⟨ab_nr_un hg h9.2.1 (nr_1 (so_n1 hg (by omega))), h9.2.2⟩) rfl gL_isSorted_X4_near rfl ⟨rfl, rfl⟩ ok_X4_near ⟨Nat.le_of_ble_eq_true rfl, Nat.le_of_ble_eq_true rfl⟩ (Nat.le_of_ble_eq_true rfl) dL_isSorted_87 ⟨Nat.le_trans (m := 2527) (by omega) (Nat.le_of_ble_eq_true rfl), Nat.le_trans (m := 15162) (by omega) (Nat.le_of_ble_eq_true rfl)⟩ (fun w5 hW5 => ?_)
        refine V_iload hc dL_isSorted_90 0 rfl ?_
        refine V_neF (tgt := 125) hc dL_isSorted_92 (by decide) rfl ?_
        refine V_aload_n hc dL_isSorted_95 1 rfl ?_
        refine V_iload hc dL_isSorted_96 0 rfl ?_
        refine V_iconst hc dL_isSorted_98 ?_
        refine V_fd (As := [.int (iI (so_k (as_T σ.1).1 (as_T σ.1).2 0)), .int (iI 2)]) hc (fc_near hl0 hW5 hI (by omega) (by decide)) (fun j h9 => h9.2.1 ⟨⟨by omega, by omega⟩, by decide, by decide⟩) (so_p (as_T σ.1).1 (as_T σ.1).2 0) σ (fun r σ2 h9 => ⟨ab_nr_un hg h9.2.1 (nr_2 (so_n2 hg (by omega))), h9.2.2⟩) rfl gL_isSorted_X4_near rfl ⟨rfl, rfl⟩ ok_X4_near ⟨Nat.le_of_ble_eq_true rfl, Nat.le_of_ble_eq_true rfl⟩ (Nat.le_of_ble_eq_true rfl) dL_isSorted_99 ⟨Nat.le_trans (m := 2527) (by omega) (Nat.le_of_ble_eq_true rfl), Nat.le_trans (m := 15162) (by omega) (Nat.le_of_ble_eq_true rfl)⟩ (fun w6 hW6 => ?_)
        refine V_iload_n hc dL_isSorted_102 3 rfl ?_
        refine V_neF (tgt := 125) hc dL_isSorted_103 (by decide) rfl ?_
        refine V_iload_n hc dL_isSorted_106 3 rfl ?_
        refine V_if_lt (tgt := 121) (X := True) (Y := False) hc dL_isSorted_107 (by decide) ⟨by omega, fun _ => trivial, fun h => h (by omega)⟩ (fun _ => ?_) (fun h => h.elim)
        refine V_iconst hc dL_isSorted_121 ?_
        refine V_goto (tgt := 126) hc dL_isSorted_122 (by decide) ?_
        refine V_istore_n hc dL_isSorted_126 [(3, .int (iI 1)), (5, .int (iI (so_k (as_T σ.1).1 (as_T σ.1).2 0))), (0, .ref hB), (1, .int (iI (N : Int))), (2, .int (iI (so_p (as_T σ.1).1 (as_T σ.1).2 0))), (4, .int (iI ((0 : Nat) : Int)))] (Nat.le_of_ble_eq_true rfl) rfl ?_
        refine V_iload hc dL_isSorted_127 1 rfl ?_
        refine V_istore_n hc dL_isSorted_129 [(2, .int (iI (so_k (as_T σ.1).1 (as_T σ.1).2 0))), (3, .int (iI 1)), (5, .int (iI (so_k (as_T σ.1).1 (as_T σ.1).2 0))), (0, .ref hB), (1, .int (iI (N : Int))), (4, .int (iI ((0 : Nat) : Int)))] (Nat.le_of_ble_eq_true rfl) rfl ?_
        refine V_iinc hc dL_isSorted_130 5 rfl [(4, .int (iI (((0 : Nat) : Int) + 1))), (2, .int (iI (so_k (as_T σ.1).1 (as_T σ.1).2 0))), (3, .int (iI 1)), (5, .int (iI (so_k (as_T σ.1).1 (as_T σ.1).2 0))), (0, .ref hB), (1, .int (iI (N : Int)))] (Nat.le_of_ble_eq_true rfl) rfl ?_
        refine V_goto (tgt := 27) hc dL_isSorted_133 (by decide) ?_
        refine V_lv [4, 5, 1, 2, 0] [(0, .ref hB), (1, .int (iI (N : Int))), (2, .int (iI (so_p (as_T σ.1).1 (as_T σ.1).2 (0 + 1)))), (3, .int (iI 1)), (4, .int (iI (((0 + 1) : Nat) : Int)))] rfl ?_
        refine V_widen (k1 := 2 + 11 * (0 + 1)) (n1 := 12 + 66 * (0 + 1)) (by omega) (by omega) ?_
        exact ih (0 + 1) _ (by omega) hW6
      | succ j =>
        have hp0 : so_p (as_T σ.1).1 (as_T σ.1).2 (j + 1) = so_k (as_T σ.1).1 (as_T σ.1).2 j := rfl
        have hjr := so_k_rng hg (r := j) (by omega)
        refine V_iload hc dL_isSorted_27 4 rfl ?_
        refine V_iload_n hc dL_isSorted_29 1 rfl ?_
        refine V_icmp_ge (tgt := 136) (X := False) (Y := True) hc dL_isSorted_30 (by decide) ⟨by omega, by omega, fun h => absurd h (by omega), fun _ => trivial⟩ (fun h => h.elim) (fun _ => ?_)
        refine V_iload_n hc dL_isSorted_33 3 rfl ?_
        refine V_if_eq (tgt := 136) (X := False) (Y := True) hc dL_isSorted_34 (by decide) ⟨by decide, fun h => absurd h (by decide), fun _ => trivial⟩ (fun h => h.elim) (fun _ => ?_)
        refine V_aload_n hc dL_isSorted_37 0 rfl ?_
        refine V_iload hc dL_isSorted_38 4 rfl ?_
        refine V_fd (As := [.int (iI (((j + 1) : Nat) : Int))]) hc (fc_keyAt hl0 hW hI (by omega)) (fun j h9 => by have h8 := h9.2.1; omega) (so_k (as_T σ.1).1 (as_T σ.1).2 (j + 1)) σ (fun r σ2 h9 => ⟨ab_kat_un hg.1 h9.2.1 (so_kat hg (by omega)), h9.2.2⟩) rfl gL_isSorted_X4_keyAt rfl ⟨rfl, rfl⟩ ok_X4_keyAt ⟨Nat.le_of_ble_eq_true rfl, Nat.le_of_ble_eq_true rfl⟩ (Nat.le_of_ble_eq_true rfl) dL_isSorted_40 ⟨Nat.le_trans (m := 2527) (by omega) (Nat.le_of_ble_eq_true rfl), Nat.le_trans (m := 15162) (by omega) (Nat.le_of_ble_eq_true rfl)⟩ (fun w1 hW1 => ?_)
        refine V_istore hc dL_isSorted_43 [(5, .int (iI (so_k (as_T σ.1).1 (as_T σ.1).2 (j + 1)))), (0, .ref hB), (1, .int (iI (N : Int))), (2, .int (iI (so_p (as_T σ.1).1 (as_T σ.1).2 (j + 1)))), (3, .int (iI 1)), (4, .int (iI (((j + 1) : Nat) : Int)))] (Nat.le_of_ble_eq_true rfl) rfl ?_
        refine V_iload hc dL_isSorted_45 0 rfl ?_
        refine V_iload_n hc dL_isSorted_47 3 rfl ?_
        refine V_icmp_le (tgt := 125) (X := False) (Y := True) hc dL_isSorted_48 (by decide) ⟨by omega, by omega, fun h => absurd h (by omega), fun _ => trivial⟩ (fun h => h.elim) (fun _ => ?_)
        refine V_aload_n hc dL_isSorted_51 1 rfl ?_
        refine V_iload hc dL_isSorted_52 0 rfl ?_
        refine V_fd (As := [.int (iI (so_k (as_T σ.1).1 (as_T σ.1).2 (j + 1)))]) hc (fc_contains hl0 hW1 hI (by omega)) (fun j h9 => h9.2.1 ⟨by omega, by omega⟩) 1 σ (fun r σ2 h9 => ⟨h9.2.2.1.mpr hky.1, h9.2.2.2⟩) rfl gL_isSorted_X4_contains rfl ⟨rfl, rfl⟩ ok_X4_contains ⟨Nat.le_of_ble_eq_true rfl, Nat.le_of_ble_eq_true rfl⟩ (Nat.le_of_ble_eq_true rfl) dL_isSorted_54 ⟨Nat.le_trans (m := 2527) (by omega) (Nat.le_of_ble_eq_true rfl), Nat.le_trans (m := 15162) (by omega) (Nat.le_of_ble_eq_true rfl)⟩ (fun w2 hW2 => ?_)
        refine V_if_eq (tgt := 125) (X := False) (Y := True) hc dL_isSorted_57 (by decide) ⟨by decide, fun h => absurd h (by decide), fun _ => trivial⟩ (fun h => h.elim) (fun _ => ?_)
        refine V_aload_n hc dL_isSorted_60 1 rfl ?_
        refine V_iload hc dL_isSorted_61 0 rfl ?_
        refine V_fd (As := [.int (iI (so_k (as_T σ.1).1 (as_T σ.1).2 (j + 1)))]) hc (fc_rank hl0 hW2 hI (by omega)) (fun j h9 => h9.2.1 ⟨by omega, by omega⟩) (((j + 1) : Nat) : Int) σ (fun r σ2 h9 => ⟨h9.2.1.trans hky.2, h9.2.2⟩) rfl gL_isSorted_X4_rank rfl ⟨rfl, rfl⟩ ok_X4_rank ⟨Nat.le_of_ble_eq_true rfl, Nat.le_of_ble_eq_true rfl⟩ (Nat.le_of_ble_eq_true rfl) dL_isSorted_63 ⟨Nat.le_trans (m := 2527) (by omega) (Nat.le_of_ble_eq_true rfl), Nat.le_trans (m := 15162) (by omega) (Nat.le_of_ble_eq_true rfl)⟩ (fun w3 hW3 => ?_)
        refine V_iload hc dL_isSorted_66 5 rfl ?_
        refine V_neF (tgt := 125) hc dL_isSorted_68 (by decide) rfl ?_
        refine V_aload_n hc dL_isSorted_71 1 rfl ?_
        refine V_iload hc dL_isSorted_72 0 rfl ?_
        refine V_iconst hc dL_isSorted_74 ?_
        refine V_fd (As := [.int (iI (so_k (as_T σ.1).1 (as_T σ.1).2 (j + 1))), .int (iI 0)]) hc (fc_near hl0 hW3 hI (by omega) (by decide)) (fun j h9 => h9.2.1 ⟨⟨by omega, by omega⟩, by decide, by decide⟩) (so_k (as_T σ.1).1 (as_T σ.1).2 (j + 1)) σ (fun r σ2 h9 => ⟨ab_nr_un hg h9.2.1 (nr_0 (so_n0 hg (by omega))), h9.2.2⟩) rfl gL_isSorted_X4_near rfl ⟨rfl, rfl⟩ ok_X4_near ⟨Nat.le_of_ble_eq_true rfl, Nat.le_of_ble_eq_true rfl⟩ (Nat.le_of_ble_eq_true rfl) dL_isSorted_75 ⟨Nat.le_trans (m := 2527) (by omega) (Nat.le_of_ble_eq_true rfl), Nat.le_trans (m := 15162) (by omega) (Nat.le_of_ble_eq_true rfl)⟩ (fun w4 hW4 => ?_)
        refine V_iload hc dL_isSorted_78 0 rfl ?_
        refine V_neF (tgt := 125) hc dL_isSorted_80 (by decide) rfl ?_
        refine V_aload_n hc dL_isSorted_83 1 rfl ?_
        refine V_iload hc dL_isSorted_84 0 rfl ?_
        refine V_iconst hc dL_isSorted_86 ?_
        refine V_fd (As := [.int (iI (so_k (as_T σ.1).1 (as_T σ.1).2 (j + 1))), .int (iI 1)]) hc (fc_near hl0 hW4 hI (by omega) (by decide)) (fun j h9 => h9.2.1 ⟨⟨by omega, by omega⟩, by decide, by decide⟩) (so_k (as_T σ.1).1 (as_T σ.1).2 (j + 1)) σ (fun r σ2 h9 => ⟨ab_nr_un hg h9.2.1 (nr_1 (so_n1 hg (by omega))), h9.2.2⟩) rfl gL_isSorted_X4_near rfl ⟨rfl, rfl⟩ ok_X4_near ⟨Nat.le_of_ble_eq_true rfl, Nat.le_of_ble_eq_true rfl⟩ (Nat.le_of_ble_eq_true rfl) dL_isSorted_87 ⟨Nat.le_trans (m := 2527) (by omega) (Nat.le_of_ble_eq_true rfl), Nat.le_trans (m := 15162) (by omega) (Nat.le_of_ble_eq_true rfl)⟩ (fun w5 hW5 => ?_)
        refine V_iload hc dL_isSorted_90 0 rfl ?_
        refine V_neF (tgt := 125) hc dL_isSorted_92 (by decide) rfl ?_
        refine V_aload_n hc dL_isSorted_95 1 rfl ?_
        refine V_iload hc dL_isSorted_96 0 rfl ?_
        refine V_iconst hc dL_isSorted_98 ?_
        refine V_fd (As := [.int (iI (so_k (as_T σ.1).1 (as_T σ.1).2 (j + 1))), .int (iI 2)]) hc (fc_near hl0 hW5 hI (by omega) (by decide)) (fun j h9 => h9.2.1 ⟨⟨by omega, by omega⟩, by decide, by decide⟩) (so_p (as_T σ.1).1 (as_T σ.1).2 (j + 1)) σ (fun r σ2 h9 => ⟨ab_nr_un hg h9.2.1 (nr_2 (so_n2 hg (by omega))), h9.2.2⟩) rfl gL_isSorted_X4_near rfl ⟨rfl, rfl⟩ ok_X4_near ⟨Nat.le_of_ble_eq_true rfl, Nat.le_of_ble_eq_true rfl⟩ (Nat.le_of_ble_eq_true rfl) dL_isSorted_99 ⟨Nat.le_trans (m := 2527) (by omega) (Nat.le_of_ble_eq_true rfl), Nat.le_trans (m := 15162) (by omega) (Nat.le_of_ble_eq_true rfl)⟩ (fun w6 hW6 => ?_)
        refine V_iload_n hc dL_isSorted_102 3 rfl ?_
        refine V_neF (tgt := 125) hc dL_isSorted_103 (by decide) rfl ?_
        refine V_iload_n hc dL_isSorted_106 3 rfl ?_
        refine V_if_lt (tgt := 121) (X := False) (Y := True) hc dL_isSorted_107 (by decide) ⟨by omega, fun h => absurd h (by omega), fun _ => trivial⟩ (fun h => h.elim) (fun _ => ?_)
        refine V_aload_n hc dL_isSorted_110 1 rfl ?_
        refine V_iload_n hc dL_isSorted_111 3 rfl ?_
        refine V_iconst hc dL_isSorted_112 ?_
        refine V_fd (As := [.int (iI (so_p (as_T σ.1).1 (as_T σ.1).2 (j + 1))), .int (iI 3)]) hc (fc_near hl0 hW6 hI (by omega) (by decide)) (fun j h9 => h9.2.1 ⟨⟨by omega, by omega⟩, by decide, by decide⟩) (so_k (as_T σ.1).1 (as_T σ.1).2 (j + 1)) σ (fun r σ2 h9 => ⟨ab_nr_un hg h9.2.1 (nr_3 (so_n3 hg (by omega))), h9.2.2⟩) rfl gL_isSorted_X4_near rfl ⟨rfl, rfl⟩ ok_X4_near ⟨Nat.le_of_ble_eq_true rfl, Nat.le_of_ble_eq_true rfl⟩ (Nat.le_of_ble_eq_true rfl) dL_isSorted_113 ⟨Nat.le_trans (m := 2527) (by omega) (Nat.le_of_ble_eq_true rfl), Nat.le_trans (m := 15162) (by omega) (Nat.le_of_ble_eq_true rfl)⟩ (fun w7 hW7 => ?_)
        refine V_iload hc dL_isSorted_116 0 rfl ?_
        refine V_neF (tgt := 125) hc dL_isSorted_118 (by decide) rfl ?_
        refine V_iconst hc dL_isSorted_121 ?_
        refine V_goto (tgt := 126) hc dL_isSorted_122 (by decide) ?_
        refine V_istore_n hc dL_isSorted_126 [(3, .int (iI 1)), (5, .int (iI (so_k (as_T σ.1).1 (as_T σ.1).2 (j + 1)))), (0, .ref hB), (1, .int (iI (N : Int))), (2, .int (iI (so_p (as_T σ.1).1 (as_T σ.1).2 (j + 1)))), (4, .int (iI (((j + 1) : Nat) : Int)))] (Nat.le_of_ble_eq_true rfl) rfl ?_
        refine V_iload hc dL_isSorted_127 1 rfl ?_
        refine V_istore_n hc dL_isSorted_129 [(2, .int (iI (so_k (as_T σ.1).1 (as_T σ.1).2 (j + 1)))), (3, .int (iI 1)), (5, .int (iI (so_k (as_T σ.1).1 (as_T σ.1).2 (j + 1)))), (0, .ref hB), (1, .int (iI (N : Int))), (4, .int (iI (((j + 1) : Nat) : Int)))] (Nat.le_of_ble_eq_true rfl) rfl ?_
        refine V_iinc hc dL_isSorted_130 5 rfl [(4, .int (iI ((((j + 1) : Nat) : Int) + 1))), (2, .int (iI (so_k (as_T σ.1).1 (as_T σ.1).2 (j + 1)))), (3, .int (iI 1)), (5, .int (iI (so_k (as_T σ.1).1 (as_T σ.1).2 (j + 1)))), (0, .ref hB), (1, .int (iI (N : Int)))] (Nat.le_of_ble_eq_true rfl) rfl ?_
        refine V_goto (tgt := 27) hc dL_isSorted_133 (by decide) ?_
        refine V_lv [4, 5, 1, 2, 0] [(0, .ref hB), (1, .int (iI (N : Int))), (2, .int (iI (so_p (as_T σ.1).1 (as_T σ.1).2 (j + 1 + 1)))), (3, .int (iI 1)), (4, .int (iI (((j + 1 + 1) : Nat) : Int)))] rfl ?_
        refine V_widen (k1 := 2 + 11 * ((j + 1) + 1)) (n1 := 12 + 66 * ((j + 1) + 1)) (by omega) (by omega) ?_
        exact ih ((j + 1) + 1) _ (by omega) hW7
  refine V_lv [0] [(0, .ref hB)] rfl ?_
  refine V_aload_n hc dL_isSorted_0 0 rfl ?_
  refine V_iconst hc dL_isSorted_1 ?_
  refine V_iconst hc dL_isSorted_2 ?_
  refine V_fd (As := [.int (iI 0), .int (iI 1)]) hc (fc_tree hl0 hCW hI (by decide) (by decide)) (fun j h9 => h9.2.1 ⟨by decide, by decide⟩) (N : Int) σ (fun r σ2 h9 => ⟨(h9.2.1.trans (if_pos rfl)).trans (tr_1.trans hN), h9.2.2⟩) rfl gL_isSorted_X4_tree rfl ⟨rfl, rfl⟩ ok_X4_tree ⟨Nat.le_of_ble_eq_true rfl, Nat.le_of_ble_eq_true rfl⟩ (Nat.le_of_ble_eq_true rfl) dL_isSorted_3 ⟨Nat.le_of_ble_eq_true rfl, Nat.le_of_ble_eq_true rfl⟩ (fun w1 hW1 => ?_)
  refine V_istore_n hc dL_isSorted_6 [(1, .int (iI (N : Int))), (0, .ref hB)] (Nat.le_of_ble_eq_true rfl) rfl ?_
  refine V_iconst hc dL_isSorted_7 ?_
  refine V_istore_n hc dL_isSorted_8 [(2, .int (iI (-1))), (1, .int (iI (N : Int))), (0, .ref hB)] (Nat.le_of_ble_eq_true rfl) rfl ?_
  refine V_aload_n hc dL_isSorted_9 2 rfl ?_
  refine V_iload_n hc dL_isSorted_10 1 rfl ?_
  refine V_fd (As := [.int (iI (N : Int))]) hc (fc_keyAt hl0 hW1 hI (by omega)) (fun j h9 => by have h8 := h9.2.1; omega) (-1) σ (fun r σ2 h9 => ⟨ab_kat_un hg.1 h9.2.1 (hN ▸ so_none hg), h9.2.2⟩) rfl gL_isSorted_X4_keyAt rfl ⟨rfl, rfl⟩ ok_X4_keyAt ⟨Nat.le_of_ble_eq_true rfl, Nat.le_of_ble_eq_true rfl⟩ (Nat.le_of_ble_eq_true rfl) dL_isSorted_11 ⟨Nat.le_of_ble_eq_true rfl, Nat.le_of_ble_eq_true rfl⟩ (fun w2 hW2 => ?_)
  refine V_iconst hc dL_isSorted_14 ?_
  refine V_icmp_ne (tgt := 22) (X := False) (Y := True) hc dL_isSorted_15 (by decide) ⟨by decide, by decide, fun h => absurd h (by decide), fun _ => trivial⟩ (fun h => h.elim) (fun _ => ?_)
  refine V_iconst hc dL_isSorted_18 ?_
  refine V_goto (tgt := 23) hc dL_isSorted_19 (by decide) ?_
  refine V_istore_n hc dL_isSorted_23 [(3, .int (iI 1)), (2, .int (iI (-1))), (1, .int (iI (N : Int))), (0, .ref hB)] (Nat.le_of_ble_eq_true rfl) rfl ?_
  refine V_iconst hc dL_isSorted_24 ?_
  refine V_istore hc dL_isSorted_25 [(4, .int (iI 0)), (3, .int (iI 1)), (2, .int (iI (-1))), (1, .int (iI (N : Int))), (0, .ref hB)] (Nat.le_of_ble_eq_true rfl) rfl ?_
  refine V_lv [4, 3, 2, 1, 0] [(0, .ref hB), (1, .int (iI (N : Int))), (2, .int (iI (so_p (as_T σ.1).1 (as_T σ.1).2 0))), (3, .int (iI 1)), (4, .int (iI ((0 : Nat) : Int)))] rfl ?_
  refine V_widen (k1 := 2 + 11 * 0) (n1 := 12 + 66 * 0) (by omega) (by omega) ?_
  exact L1 N 0 _ (by omega) hW2
