/-! isQueued -/
abbrev FS (N : Nat → Int) : aS := ((fl_KL, fl_0), ab_e0, fl_J0, fl_E, N)
abbrev JS (k : Nat) (N : Nat → Int) : aS := ((fl_KL, fl_q k), (fl_M.take k, fl_0), (fl_M, k, fl_Q k, 1), fl_E, N)
abbrev KS (N : Nat → Int) : aS := ((fl_KL, fl_q 30), (fl_M.take 31, fl_0), (fl_M, 31, fl_Q 30, 1), fl_E, N)
abbrev ZS (N : Nat → Int) : aS := ((fl_KL, fl_z), ab_e0, fl_J0, fl_E, N)
abbrev BS (E : Nat → Int) (k : Nat) (N : Nat → Int) : aS := ((fl_KL, fl_z), (fl_M9.take (8 * k), fl_0), (fl_M9, 8 * k, [], 1), E, N)
abbrev DS (N : Nat → Int) : aS := ((fl_M9, fl_0), ab_e0, fl_J0, fl_E2, N)
theorem dkc {R : Int → aW → Prop} {v v2 : Int} {s s2 : aW} (h : ∀ r σ2, R r σ2 → r = v ∧ σ2 = s) (ev : v = v2) (e : s = s2) : ∀ r σ2, R r σ2 → r = v2 ∧ σ2 = s2 := fun r σ2 q => ⟨(h r σ2 q).1.trans ev, (h r σ2 q).2.trans e⟩
theorem reb_2 {A : aS} (h : as_R A = 1) : ab_reb A 2 = (as_C A : Int) := by
  unfold ab_reb
  rw [if_neg (by omega), if_neg (by decide), if_neg (by decide), if_pos rfl]
theorem reb_3 {A : aS} (h : as_R A = 1) : ab_reb A 3 = ((as_Q A).length : Int) := by
  unfold ab_reb
  rw [if_neg (by omega), if_neg (by decide), if_neg (by decide), if_neg (by decide), if_pos rfl]
theorem reb_4 {A : aS} (h : as_R A = 0) : ab_reb A 4 = -1 := by
  unfold ab_reb
  rw [if_pos h, if_pos rfl]
theorem ls_det {A : aS} {c v r0 : Int} (hr : as_R A = 1) (h : ab_ls A c r0) (q : (as_R A = 0 ∧ v = -1) ∨ (as_R A = 1 ∧ ab_ls A c v)) : v = r0 := by
  rcases q with ⟨q, -⟩ | ⟨-, q⟩
  · omega
  · exact ab_ls_un q h
theorem KS_cl (N : Nat → Int) (sp : Int) : ab_cl (KS N) sp = (119 + sp - 1) / sp := by
  rw [fl_cl, fl_len.2.1, fl_Q_len] <;> rfl
theorem BS_cl (E N : Nat → Int) : ab_cl (BS E 0 N) 8 = 12 := by
  rw [fl_cl, fl_len.2.2] <;> rfl
abbrev rm_L_isQueued : Room := { frames := 9, cells := 257, slots := 1542, locals := 224 }
set_option maxHeartbeats 16000000 in
theorem lm_isQueued {l : Launch} (hl0 : l.stackTraces = false) {D : va_G} {t : Nat → ClassId} {hB : Nat} {N0 : Nat → Int} {S0 : List aS} {P : Nat → Option aS} {X : List Int} {ws0 : va_W} (hCW : CW t hB ws0 (FS N0, S0, P, X)) (hI : ivE (FS N0, S0, P, X)) (h4 : N0 4 = 0) (h5 : N0 5 = 0) (h6 : N0 6 = 0) : MWi l D t yL_isQueued wsL_isQueued rm_L_isQueued [.ref hB] ws0 idW (fun r (_ : va_W) => r = 1) 257 1542 := by
  refine M_ofgz (cc := cL_isQueued) (nL := 3) (by decide) rfl (Nat.le_of_ble_eq_true rfl) ?_
  intro p e s m args below meth c A hc hG hr
  have E6 : ∀ (N : Nat → Int) (S : List aS) (w : va_W), CW t hB w (DS N, S, P, X) → ivE (DS N, S, P, X) → (N 5 = 1) → (N 6 = 1) → V p l e rm_L_isQueued s m args below meth c D A 3 252 1512 (MQ below (QI D A idW (fun r (_ : va_W) => r = 1)) args s 257 1542 A) 432 [(0, .ref hB), (1, .int (iI 1))] [] w := by
    intro N S w hW hI g0 g1
    refine V_iload_n hc dL_isQueued_432 1 rfl ?_
    refine V_if_eq (tgt := 490) (X := False) (Y := True) hc dL_isQueued_433 (by decide) ⟨by decide, fun h => absurd h (by decide), fun _ => trivial⟩ (fun h => h.elim) (fun _ => ?_)
    refine V_aload_n hc dL_isQueued_436 0 rfl ?_
    refine V_iconst hc dL_isQueued_437 ?_
    refine V_fd (As := [.int (iI 5)]) hc (fc_count hl0 hW hI (by decide)) (fun j h9 => h9.2.1 ⟨by decide, by decide⟩) 1 (DS N, S, P, X) (fun r σ2 h9 => ⟨h9.2.1.trans (cn_5.trans (g0)), h9.2.2⟩) rfl gL_isQueued_X4_count rfl ⟨rfl, rfl⟩ ok_X4_count ⟨Nat.le_of_ble_eq_true rfl, Nat.le_of_ble_eq_true rfl⟩ (Nat.le_of_ble_eq_true rfl) dL_isQueued_438 ⟨Nat.le_of_ble_eq_true rfl, Nat.le_of_ble_eq_true rfl⟩ (fun w1 hW1 => ?_)
    refine V_iconst hc dL_isQueued_441 ?_
    refine V_icmp_ne (tgt := 490) (X := False) (Y := True) hc dL_isQueued_442 (by decide) ⟨by decide, by decide, fun h => absurd h (by decide), fun _ => trivial⟩ (fun h => h.elim) (fun _ => ?_)
    refine V_aload_n hc dL_isQueued_445 0 rfl ?_
    refine V_iconst hc dL_isQueued_446 ?_
    refine V_iconst hc dL_isQueued_447 ?_
    refine V_fd (As := [.int (iI 0), .int (iI 0)]) hc (fc_tree hl0 hW1 hI (by decide) (by decide)) (fun j h9 => h9.2.1 ⟨by decide, by decide⟩) 91 (DS N, S, P, X) (fun r σ2 h9 => ⟨(h9.2.1.trans (if_pos rfl)).trans (tr_0.trans (show ((fl_M9.length : Nat) : Int) = 91 from by rw [fl_len.2.2] <;> rfl)), h9.2.2⟩) rfl gL_isQueued_X4_tree rfl ⟨rfl, rfl⟩ ok_X4_tree ⟨Nat.le_of_ble_eq_true rfl, Nat.le_of_ble_eq_true rfl⟩ (Nat.le_of_ble_eq_true rfl) dL_isQueued_448 ⟨Nat.le_of_ble_eq_true rfl, Nat.le_of_ble_eq_true rfl⟩ (fun w2 hW2 => ?_)
    refine V_bipush hc dL_isQueued_451 (by decide) ?_
    refine V_icmp_ne (tgt := 490) (X := False) (Y := True) hc dL_isQueued_453 (by decide) ⟨by decide, by decide, fun h => absurd h (by decide), fun _ => trivial⟩ (fun h => h.elim) (fun _ => ?_)
    refine V_aload_n hc dL_isQueued_456 0 rfl ?_
    refine V_iconst hc dL_isQueued_457 ?_
    refine V_iconst hc dL_isQueued_458 ?_
    refine V_fd (As := [.int (iI 0), .int (iI 3)]) hc (fc_tree hl0 hW2 hI (by decide) (by decide)) (fun j h9 => h9.2.1 ⟨by decide, by decide⟩) 7 (DS N, S, P, X) (fun r σ2 h9 => ⟨(h9.2.1.trans (if_pos rfl)).trans (tr_3.trans fl_dm9), h9.2.2⟩) rfl gL_isQueued_X4_tree rfl ⟨rfl, rfl⟩ ok_X4_tree ⟨Nat.le_of_ble_eq_true rfl, Nat.le_of_ble_eq_true rfl⟩ (Nat.le_of_ble_eq_true rfl) dL_isQueued_459 ⟨Nat.le_of_ble_eq_true rfl, Nat.le_of_ble_eq_true rfl⟩ (fun w3 hW3 => ?_)
    refine V_bipush hc dL_isQueued_462 (by decide) ?_
    refine V_icmp_ne (tgt := 490) (X := False) (Y := True) hc dL_isQueued_464 (by decide) ⟨by decide, by decide, fun h => absurd h (by decide), fun _ => trivial⟩ (fun h => h.elim) (fun _ => ?_)
    refine V_aload_n hc dL_isQueued_467 0 rfl ?_
    refine V_iconst hc dL_isQueued_468 ?_
    refine V_iconst hc dL_isQueued_469 ?_
    refine V_fd (As := [.int (iI 0), .int (iI 2)]) hc (fc_tree hl0 hW3 hI (by decide) (by decide)) (fun j h9 => h9.2.1 ⟨by decide, by decide⟩) 0 (DS N, S, P, X) (fun r σ2 h9 => ⟨(h9.2.1.trans (if_pos rfl)).trans (tr_2.trans (show ((fl_M9.length : Nat) : Int) - ab_np fl_M9 fl_0 = 0 from by rw [fl_np0]; omega)), h9.2.2⟩) rfl gL_isQueued_X4_tree rfl ⟨rfl, rfl⟩ ok_X4_tree ⟨Nat.le_of_ble_eq_true rfl, Nat.le_of_ble_eq_true rfl⟩ (Nat.le_of_ble_eq_true rfl) dL_isQueued_470 ⟨Nat.le_of_ble_eq_true rfl, Nat.le_of_ble_eq_true rfl⟩ (fun w4 hW4 => ?_)
    refine V_if_ne (tgt := 490) (X := False) (Y := True) hc dL_isQueued_473 (by decide) ⟨by decide, fun h => absurd h (by decide), fun _ => trivial⟩ (fun h => h.elim) (fun _ => ?_)
    refine V_aload_n hc dL_isQueued_476 0 rfl ?_
    refine V_bipush hc dL_isQueued_477 (by decide) ?_
    refine V_fd (As := [.int (iI 6)]) hc (fc_count hl0 hW4 hI (by decide)) (fun j h9 => h9.2.1 ⟨by decide, by decide⟩) 1 (DS N, S, P, X) (fun r σ2 h9 => ⟨h9.2.1.trans (cn_6.trans (g1)), h9.2.2⟩) rfl gL_isQueued_X4_count rfl ⟨rfl, rfl⟩ ok_X4_count ⟨Nat.le_of_ble_eq_true rfl, Nat.le_of_ble_eq_true rfl⟩ (Nat.le_of_ble_eq_true rfl) dL_isQueued_479 ⟨Nat.le_of_ble_eq_true rfl, Nat.le_of_ble_eq_true rfl⟩ (fun w5 hW5 => ?_)
    refine V_iconst hc dL_isQueued_482 ?_
    refine V_icmp_ne (tgt := 490) (X := False) (Y := True) hc dL_isQueued_483 (by decide) ⟨by decide, by decide, fun h => absurd h (by decide), fun _ => trivial⟩ (fun h => h.elim) (fun _ => ?_)
    refine V_iconst hc dL_isQueued_486 ?_
    refine V_goto (tgt := 491) hc dL_isQueued_487 (by decide) ?_
    refine V_widen (k1 := 257) (n1 := 1542) (Nat.le_of_ble_eq_true rfl) (Nat.le_of_ble_eq_true rfl) ?_
    exact V_zret hc hr w5 ⟨Or.inr rfl, rfl⟩ rfl dL_isQueued_491
  have L2 : ∀ (n k : Nat) (N : Nat → Int) (S : List aS) (w : va_W), k + n = 11 → CW t hB w (BS fl_E2 k N, S, P, X) → ivE (BS fl_E2 k N, S, P, X) → N 5 = 0 → N 6 = 1 → V p l e rm_L_isQueued s m args below meth c D A 3 (240 + 1 * k) (1440 + 6 * k) (MQ below (QI D A idW (fun r (_ : va_W) => r = 1)) args s 257 1542 A) 383 [(0, .ref hB), (1, .int (iI 1)), (2, .int (iI (k : Int)))] [] w := by
    intro n
    induction n with
    | zero =>
      intro k N S w hk hW hI g0 g1
      obtain rfl : 11 = k := by omega
      have e3 : ab_act (BS fl_E2 11 N) (-1) = (3, DS (fl_cN (uI N 5 (N 5 + 1)) 3)) := fl_idle3
      have e1 : sB (BS fl_E2 11 N, S, P, X) (ab_act (BS fl_E2 11 N, S, P, X).1 (-1)).2 = (DS (fl_cN (uI N 5 (N 5 + 1)) 3), ab_save S (BS fl_E2 11 N), P, X) := congrArg (fun B => ((B, ab_save S (BS fl_E2 11 N), P, X) : aW)) (congrArg Prod.snd e3)
      have hI1 : ivE (DS (fl_cN (uI N 5 (N 5 + 1)) 3), ab_save S (BS fl_E2 11 N), P, X) := by
        have q := ivE_idle hI
        rw [e1] at q
        exact q
      refine V_iload_n hc dL_isQueued_383 2 rfl ?_
      refine V_bipush hc dL_isQueued_384 (by decide) ?_
      refine V_icmp_ge (tgt := 432) (X := False) (Y := True) hc dL_isQueued_386 (by decide) ⟨by decide, by decide, fun h => absurd h (by decide), fun _ => trivial⟩ (fun h => h.elim) (fun _ => ?_)
      refine V_iload_n hc dL_isQueued_389 1 rfl ?_
      refine V_if_eq (tgt := 432) (X := False) (Y := True) hc dL_isQueued_390 (by decide) ⟨by decide, fun h => absurd h (by decide), fun _ => trivial⟩ (fun h => h.elim) (fun _ => ?_)
      refine V_aload_n hc dL_isQueued_393 0 rfl ?_
      refine V_iconst hc dL_isQueued_394 ?_
      refine V_fd (As := [.int (iI 5)]) hc (fc_count hl0 hW hI (by decide)) (fun j h9 => h9.2.1 ⟨by decide, by decide⟩) 0 (BS fl_E2 11 N, S, P, X) (fun r σ2 h9 => ⟨h9.2.1.trans (cn_5.trans (g0)), h9.2.2⟩) rfl gL_isQueued_X4_count rfl ⟨rfl, rfl⟩ ok_X4_count ⟨Nat.le_of_ble_eq_true rfl, Nat.le_of_ble_eq_true rfl⟩ (Nat.le_of_ble_eq_true rfl) dL_isQueued_395 ⟨Nat.le_trans (m := 257) (by omega) (Nat.le_of_ble_eq_true rfl), Nat.le_trans (m := 1542) (by omega) (Nat.le_of_ble_eq_true rfl)⟩ (fun w1 hW1 => ?_)
      refine V_if_ne (tgt := 424) (X := False) (Y := True) hc dL_isQueued_398 (by decide) ⟨by decide, fun h => absurd h (by decide), fun _ => trivial⟩ (fun h => h.elim) (fun _ => ?_)
      refine V_aload_n hc dL_isQueued_401 0 rfl ?_
      refine V_fd (As := []) hc (fc_idle hW1 hI ) (fun j h9 => h9) 3 (DS (fl_cN (uI N 5 (N 5 + 1)) 3), ab_save S (BS fl_E2 11 N), P, X) (fun r σ2 h9 => ⟨h9.1.trans (congrArg Prod.fst e3), h9.2.trans e1⟩) rfl gL_isQueued_X4_idle rfl ⟨rfl, rfl⟩ ok_X4_idle ⟨Nat.le_of_ble_eq_true rfl, Nat.le_of_ble_eq_true rfl⟩ (Nat.le_of_ble_eq_true rfl) dL_isQueued_402 ⟨Nat.le_trans (m := 257) (by omega) (Nat.le_of_ble_eq_true rfl), Nat.le_trans (m := 1542) (by omega) (Nat.le_of_ble_eq_true rfl)⟩ (fun w2 hW2 => ?_)
      refine V_iload_n hc dL_isQueued_405 2 rfl ?_
      refine V_bipush hc dL_isQueued_406 (by decide) ?_
      refine V_icmp_ge (tgt := 416) (X := True) (Y := False) hc dL_isQueued_408 (by decide) ⟨by decide, by decide, fun _ => trivial, fun h => h (by decide)⟩ (fun _ => ?_) (fun h => h.elim)
      refine V_iconst hc dL_isQueued_416 ?_
      refine V_icmp_ne (tgt := 424) (X := False) (Y := True) hc dL_isQueued_417 (by decide) ⟨by decide, by decide, fun h => absurd h (by decide), fun _ => trivial⟩ (fun h => h.elim) (fun _ => ?_)
      refine V_iconst hc dL_isQueued_420 ?_
      refine V_goto (tgt := 425) hc dL_isQueued_421 (by decide) ?_
      refine V_istore_n hc dL_isQueued_425 [(1, .int (iI 1)), (0, .ref hB), (2, .int (iI ((11 : Nat) : Int)))] (Nat.le_of_ble_eq_true rfl) rfl ?_
      refine V_iinc hc dL_isQueued_426 2 rfl [(2, .int (iI (((11 : Nat) : Int) + 1))), (1, .int (iI 1)), (0, .ref hB)] (Nat.le_of_ble_eq_true rfl) rfl ?_
      refine V_goto (tgt := 383) hc dL_isQueued_429 (by decide) ?_
      refine V_iload_n hc dL_isQueued_383 0 rfl ?_
      refine V_bipush hc dL_isQueued_384 (by decide) ?_
      refine V_icmp_ge (tgt := 432) (X := True) (Y := False) hc dL_isQueued_386 (by decide) ⟨by decide, by decide, fun _ => trivial, fun h => h (by decide)⟩ (fun _ => ?_) (fun h => h.elim)
      refine V_lv [2, 1] [(0, .ref hB), (1, .int (iI 1))] rfl ?_
      refine V_widen (k1 := 252) (n1 := 1512) (by omega) (by omega) ?_
      exact E6 _ _ _ hW2 hI1 (by show N 5 + 1 = 1; omega) g1
    | succ n ih =>
      intro k N S w hk hW hI g0 g1
      have e3 : ab_act (BS fl_E2 k N) (-1) = (8, BS fl_E2 (k + 1) (fl_cN N 8)) := fl_idle8 (by omega)
      have e1 : sB (BS fl_E2 k N, S, P, X) (ab_act (BS fl_E2 k N, S, P, X).1 (-1)).2 = (BS fl_E2 (k + 1) (fl_cN N 8), ab_save S (BS fl_E2 k N), P, X) := congrArg (fun B => ((B, ab_save S (BS fl_E2 k N), P, X) : aW)) (congrArg Prod.snd e3)
      have hI1 : ivE (BS fl_E2 (k + 1) (fl_cN N 8), ab_save S (BS fl_E2 k N), P, X) := by
        have q := ivE_idle hI
        rw [e1] at q
        exact q
      refine V_iload_n hc dL_isQueued_383 2 rfl ?_
      refine V_bipush hc dL_isQueued_384 (by decide) ?_
      refine V_icmp_ge (tgt := 432) (X := False) (Y := True) hc dL_isQueued_386 (by decide) ⟨by omega, by decide, fun h => absurd h (by omega), fun _ => trivial⟩ (fun h => h.elim) (fun _ => ?_)
      refine V_iload_n hc dL_isQueued_389 1 rfl ?_
      refine V_if_eq (tgt := 432) (X := False) (Y := True) hc dL_isQueued_390 (by decide) ⟨by decide, fun h => absurd h (by decide), fun _ => trivial⟩ (fun h => h.elim) (fun _ => ?_)
      refine V_aload_n hc dL_isQueued_393 0 rfl ?_
      refine V_iconst hc dL_isQueued_394 ?_
      refine V_fd (As := [.int (iI 5)]) hc (fc_count hl0 hW hI (by decide)) (fun j h9 => h9.2.1 ⟨by decide, by decide⟩) 0 (BS fl_E2 k N, S, P, X) (fun r σ2 h9 => ⟨h9.2.1.trans (cn_5.trans (g0)), h9.2.2⟩) rfl gL_isQueued_X4_count rfl ⟨rfl, rfl⟩ ok_X4_count ⟨Nat.le_of_ble_eq_true rfl, Nat.le_of_ble_eq_true rfl⟩ (Nat.le_of_ble_eq_true rfl) dL_isQueued_395 ⟨Nat.le_trans (m := 257) (by omega) (Nat.le_of_ble_eq_true rfl), Nat.le_trans (m := 1542) (by omega) (Nat.le_of_ble_eq_true rfl)⟩ (fun w1 hW1 => ?_)
      refine V_if_ne (tgt := 424) (X := False) (Y := True) hc dL_isQueued_398 (by decide) ⟨by decide, fun h => absurd h (by decide), fun _ => trivial⟩ (fun h => h.elim) (fun _ => ?_)
      refine V_aload_n hc dL_isQueued_401 0 rfl ?_
      refine V_fd (As := []) hc (fc_idle hW1 hI ) (fun j h9 => h9) 8 (BS fl_E2 (k + 1) (fl_cN N 8), ab_save S (BS fl_E2 k N), P, X) (fun r σ2 h9 => ⟨h9.1.trans (congrArg Prod.fst e3), h9.2.trans e1⟩) rfl gL_isQueued_X4_idle rfl ⟨rfl, rfl⟩ ok_X4_idle ⟨Nat.le_of_ble_eq_true rfl, Nat.le_of_ble_eq_true rfl⟩ (Nat.le_of_ble_eq_true rfl) dL_isQueued_402 ⟨Nat.le_trans (m := 257) (by omega) (Nat.le_of_ble_eq_true rfl), Nat.le_trans (m := 1542) (by omega) (Nat.le_of_ble_eq_true rfl)⟩ (fun w2 hW2 => ?_)
      refine V_iload_n hc dL_isQueued_405 2 rfl ?_
      refine V_bipush hc dL_isQueued_406 (by decide) ?_
      refine V_icmp_ge (tgt := 416) (X := False) (Y := True) hc dL_isQueued_408 (by decide) ⟨by omega, by decide, fun h => absurd h (by omega), fun _ => trivial⟩ (fun h => h.elim) (fun _ => ?_)
      refine V_bipush hc dL_isQueued_411 (by decide) ?_
      refine V_goto (tgt := 417) hc dL_isQueued_413 (by decide) ?_
      refine V_icmp_ne (tgt := 424) (X := False) (Y := True) hc dL_isQueued_417 (by decide) ⟨by decide, by decide, fun h => absurd h (by decide), fun _ => trivial⟩ (fun h => h.elim) (fun _ => ?_)
      refine V_iconst hc dL_isQueued_420 ?_
      refine V_goto (tgt := 425) hc dL_isQueued_421 (by decide) ?_
      refine V_istore_n hc dL_isQueued_425 [(1, .int (iI 1)), (0, .ref hB), (2, .int (iI (k : Int)))] (Nat.le_of_ble_eq_true rfl) rfl ?_
      refine V_iinc hc dL_isQueued_426 2 rfl [(2, .int (iI ((k : Int) + 1))), (1, .int (iI 1)), (0, .ref hB)] (Nat.le_of_ble_eq_true rfl) rfl ?_
      refine V_goto (tgt := 383) hc dL_isQueued_429 (by decide) ?_
      refine V_lv [2, 1, 0] [(0, .ref hB), (1, .int (iI 1)), (2, .int (iI ((k + 1 : Nat) : Int)))] rfl ?_
      refine V_widen (k1 := 240 + 1 * (k + 1)) (n1 := 1440 + 6 * (k + 1)) (by omega) (by omega) ?_
      exact ih (k + 1) _ _ _ (by omega) hW2 hI1 g0 g1
  have E4 : ∀ (N : Nat → Int) (S : List aS) (w : va_W), CW t hB w (ZS N, S, P, X) → ivE (ZS N, S, P, X) → (N 5 = 0) → (N 6 = 1) → V p l e rm_L_isQueued s m args below meth c D A 3 235 1410 (MQ below (QI D A idW (fun r (_ : va_W) => r = 1)) args s 257 1542 A) 336 [(0, .ref hB), (1, .int (iI 1))] [] w := by
    intro N S w hW hI g0 g1
    have e1 : sB (ZS N, S, P, X) (ab_beg (ZS N, S, P, X).1) = (BS fl_E 0 (uI N 4 (N 4 + 1)), ab_save S (ZS N), P, X) := by
      show (((fl_KL, fl_z), ab_e0, (ab_lst fl_KL fl_z, 0, [], 1), fl_E, (uI N 4 (N 4 + 1))), ab_save S (ZS N), P, X) = _
      rw [fl_lst9] <;> rfl
    have hI1 : ivE (BS fl_E 0 (uI N 4 (N 4 + 1)), ab_save S (ZS N), P, X) := by
      have q := ivE_begin hI rfl
      rw [e1] at q
      exact q
    have hv8 : ab_val 2 8 := ⟨fun q => absurd q (by decide), fun q => absurd q (by decide), fun _ => by decide⟩
    have hI2 : ivE (BS fl_E2 0 (uI N 4 (N 4 + 1)), ab_save (ab_save S (ZS N)) (BS fl_E 0 (uI N 4 (N 4 + 1))), P, X) := ivE_set hI1 (s := 2) (x := 8) (by decide) hv8
    refine V_iload_n hc dL_isQueued_336 1 rfl ?_
    refine V_if_eq (tgt := 379) (X := False) (Y := True) hc dL_isQueued_337 (by decide) ⟨by decide, fun h => absurd h (by decide), fun _ => trivial⟩ (fun h => h.elim) (fun _ => ?_)
    refine V_aload_n hc dL_isQueued_340 0 rfl ?_
    refine V_iconst hc dL_isQueued_341 ?_
    refine V_iconst hc dL_isQueued_342 ?_
    refine V_iconst hc dL_isQueued_343 ?_
    refine V_lc (As := [.ref hB, .int (iI 2), .int (iI 0), .int (iI 0)]) (hh := [(0, 158, 159, 51), (0, 158, 164, 53), (0, 158, 169, 55)]) hc hG (lc_call_2 hl0 hW hI (by decide) (by decide)) 91 (BS fl_E 0 (uI N 4 (N 4 + 1)), ab_save S (ZS N), P, X) (dkc (dk_begin rfl) (by show (((ab_lst fl_KL fl_z).length : Nat) : Int) = 91; rw [fl_lst9, fl_len.2.2] <;> rfl) e1) rfl gL_isQueued_L_call rfl ⟨rfl, rfl⟩ ok_L_call ⟨Nat.le_of_ble_eq_true rfl, Nat.le_of_ble_eq_true rfl⟩ (Nat.le_of_ble_eq_true rfl) dL_isQueued_344 ⟨Nat.le_of_ble_eq_true rfl, Nat.le_of_ble_eq_true rfl⟩ (fun w1 hW1 => ?_)
    refine V_bipush hc dL_isQueued_347 (by decide) ?_
    refine V_icmp_ne (tgt := 379) (X := False) (Y := True) hc dL_isQueued_349 (by decide) ⟨by decide, by decide, fun h => absurd h (by decide), fun _ => trivial⟩ (fun h => h.elim) (fun _ => ?_)
    refine V_aload_n hc dL_isQueued_352 0 rfl ?_
    refine V_bipush hc dL_isQueued_353 (by decide) ?_
    refine V_fd (As := [.int (iI 8)]) hc (fc_untilExchange hl0 hW1 hI1 (by decide)) (fun j h9 => h9.2.1 ⟨by decide, by decide⟩) 12 (BS fl_E 0 (uI N 4 (N 4 + 1)), ab_save S (ZS N), P, X) (fun r σ2 h9 => ⟨(h9.2.1.trans (if_pos rfl)).trans (BS_cl _ _), h9.2.2⟩) rfl gL_isQueued_X4_untilExchange rfl ⟨rfl, rfl⟩ ok_X4_untilExchange ⟨Nat.le_of_ble_eq_true rfl, Nat.le_of_ble_eq_true rfl⟩ (Nat.le_of_ble_eq_true rfl) dL_isQueued_355 ⟨Nat.le_of_ble_eq_true rfl, Nat.le_of_ble_eq_true rfl⟩ (fun w2 hW2 => ?_)
    refine V_bipush hc dL_isQueued_358 (by decide) ?_
    refine V_icmp_ne (tgt := 379) (X := False) (Y := True) hc dL_isQueued_360 (by decide) ⟨by decide, by decide, fun h => absurd h (by decide), fun _ => trivial⟩ (fun h => h.elim) (fun _ => ?_)
    refine V_aload_n hc dL_isQueued_363 0 rfl ?_
    refine V_iconst hc dL_isQueued_364 ?_
    refine V_iconst hc dL_isQueued_365 ?_
    refine V_bipush hc dL_isQueued_366 (by decide) ?_
    refine V_lc (As := [.ref hB, .int (iI 4), .int (iI 2), .int (iI 8)]) (hh := [(0, 158, 159, 51), (0, 158, 164, 53), (0, 158, 169, 55)]) hc hG (lc_call_4 hl0 hW2 hI1 (by decide) (by decide)) 1 (BS fl_E2 0 (uI N 4 (N 4 + 1)), ab_save (ab_save S (ZS N)) (BS fl_E 0 (uI N 4 (N 4 + 1))), P, X) (dkc (dk_set (by decide) hv8) rfl rfl) rfl gL_isQueued_L_call rfl ⟨rfl, rfl⟩ ok_L_call ⟨Nat.le_of_ble_eq_true rfl, Nat.le_of_ble_eq_true rfl⟩ (Nat.le_of_ble_eq_true rfl) dL_isQueued_368 ⟨Nat.le_of_ble_eq_true rfl, Nat.le_of_ble_eq_true rfl⟩ (fun w3 hW3 => ?_)
    refine V_iconst hc dL_isQueued_371 ?_
    refine V_icmp_ne (tgt := 379) (X := False) (Y := True) hc dL_isQueued_372 (by decide) ⟨by decide, by decide, fun h => absurd h (by decide), fun _ => trivial⟩ (fun h => h.elim) (fun _ => ?_)
    refine V_iconst hc dL_isQueued_375 ?_
    refine V_goto (tgt := 380) hc dL_isQueued_376 (by decide) ?_
    refine V_istore_n hc dL_isQueued_380 [(1, .int (iI 1)), (0, .ref hB)] (Nat.le_of_ble_eq_true rfl) rfl ?_
    refine V_iconst hc dL_isQueued_381 ?_
    refine V_istore_n hc dL_isQueued_382 [(2, .int (iI 0)), (1, .int (iI 1)), (0, .ref hB)] (Nat.le_of_ble_eq_true rfl) rfl ?_
    refine V_lv [2, 1, 0] [(0, .ref hB), (1, .int (iI 1)), (2, .int (iI ((0 : Nat) : Int)))] rfl ?_
    refine V_widen (k1 := 240 + 1 * 0) (n1 := 1440 + 6 * 0) (Nat.le_of_ble_eq_true rfl) (Nat.le_of_ble_eq_true rfl) ?_
    exact L2 11 0 _ _ _ rfl hW3 hI2 g0 g1
  have E3 : ∀ (N : Nat → Int) (S : List aS) (w : va_W), CW t hB w (KS N, S, P, X) → ivE (KS N, S, P, X) → (N 5 = 0) → (N 6 = 0) → V p l e rm_L_isQueued s m args below meth c D A 3 224 1344 (MQ below (QI D A idW (fun r (_ : va_W) => r = 1)) args s 257 1542 A) 232 [(0, .ref hB), (1, .int (iI 1))] [] w := by
    intro N S w hW hI g0 g1
    have e1 : sB (KS N, S, P, X) (ab_act (KS N, S, P, X).1 (4 * 7 + 1)).2 = (ZS (fl_cN (uI N 6 (N 6 + 1)) (ab_dep fl_KL (29 % 500))), ab_save S (KS N), P, X) := congrArg (fun B => ((B, ab_save S (KS N), P, X) : aW)) (fl_add7 (N := N))
    have hrm : ab_room1 (as_T (KS N, S, P, X).1) (4 * 7 + 1) := Or.inl (fl_has 7 (by decide))
    have hI1 : ivE (ZS (fl_cN (uI N 6 (N 6 + 1)) (ab_dep fl_KL (29 % 500))), ab_save S (KS N), P, X) := by
      have q := ivE_add hI (x := 4 * 7 + 1) ⟨by decide, by decide⟩ hrm
      rw [e1] at q
      exact q
    refine V_iload_n hc dL_isQueued_232 1 rfl ?_
    refine V_if_eq (tgt := 334) (X := False) (Y := True) hc dL_isQueued_233 (by decide) ⟨by decide, fun h => absurd h (by decide), fun _ => trivial⟩ (fun h => h.elim) (fun _ => ?_)
    refine V_aload_n hc dL_isQueued_236 0 rfl ?_
    refine V_iconst hc dL_isQueued_237 ?_
    refine V_bipush hc dL_isQueued_238 (by decide) ?_
    refine V_ls (As := [.int (iI 7)]) (W1 := fun _ : Unit => []) (wc := []) (wr := w) hc hG (List.Perm.refl _) (lm_keyOf (x := 7)) rfl gL_isQueued_L_keyOf rfl ⟨rfl, rfl⟩ ok_L_keyOf ⟨Nat.le_of_ble_eq_true rfl, Nat.le_of_ble_eq_true rfl⟩ (Nat.le_of_ble_eq_true rfl) dL_isQueued_240 ⟨Nat.le_of_ble_eq_true rfl, Nat.le_of_ble_eq_true rfl⟩ (fun r9 _ h9 => ?_)
    subst h9
    refine V_weq (ws1 := w) rfl ?_
    refine V_iconst hc dL_isQueued_243 ?_
    refine V_lc (As := [.ref hB, .int (iI 0), .int (iI (4 * 7 + 1)), .int (iI 0)]) (hh := [(0, 158, 159, 51), (0, 158, 164, 53), (0, 158, 169, 55)]) hc hG (lc_call_0 hl0 hW hI (by decide) (by decide)) 1 (ZS (fl_cN (uI N 6 (N 6 + 1)) (ab_dep fl_KL (29 % 500))), ab_save S (KS N), P, X) (dkc (dk_add1 ⟨by decide, by decide⟩ hrm (fl_rem7 (N := N)).1) rfl e1) rfl gL_isQueued_L_call rfl ⟨rfl, rfl⟩ ok_L_call ⟨Nat.le_of_ble_eq_true rfl, Nat.le_of_ble_eq_true rfl⟩ (Nat.le_of_ble_eq_true rfl) dL_isQueued_244 ⟨Nat.le_of_ble_eq_true rfl, Nat.le_of_ble_eq_true rfl⟩ (fun w1 hW1 => ?_)
    refine V_iconst hc dL_isQueued_247 ?_
    refine V_icmp_ne (tgt := 334) (X := False) (Y := True) hc dL_isQueued_248 (by decide) ⟨by decide, by decide, fun h => absurd h (by decide), fun _ => trivial⟩ (fun h => h.elim) (fun _ => ?_)
    refine V_aload_n hc dL_isQueued_251 0 rfl ?_
    refine V_bipush hc dL_isQueued_252 (by decide) ?_
    refine V_fd (As := [.int (iI 6)]) hc (fc_count hl0 hW1 hI1 (by decide)) (fun j h9 => h9.2.1 ⟨by decide, by decide⟩) 1 (ZS (fl_cN (uI N 6 (N 6 + 1)) (ab_dep fl_KL (29 % 500))), ab_save S (KS N), P, X) (fun r σ2 h9 => ⟨h9.2.1.trans (cn_6.trans (show N 6 + 1 = 1 by omega)), h9.2.2⟩) rfl gL_isQueued_X4_count rfl ⟨rfl, rfl⟩ ok_X4_count ⟨Nat.le_of_ble_eq_true rfl, Nat.le_of_ble_eq_true rfl⟩ (Nat.le_of_ble_eq_true rfl) dL_isQueued_254 ⟨Nat.le_of_ble_eq_true rfl, Nat.le_of_ble_eq_true rfl⟩ (fun w2 hW2 => ?_)
    refine V_iconst hc dL_isQueued_257 ?_
    refine V_icmp_ne (tgt := 334) (X := False) (Y := True) hc dL_isQueued_258 (by decide) ⟨by decide, by decide, fun h => absurd h (by decide), fun _ => trivial⟩ (fun h => h.elim) (fun _ => ?_)
    refine V_aload_n hc dL_isQueued_261 0 rfl ?_
    refine V_iconst hc dL_isQueued_262 ?_
    refine V_fd (As := [.int (iI 0)]) hc (fc_rebuild hl0 hW2 hI1 (by decide)) (fun j h9 => h9.2.1 ⟨by decide, by decide⟩) 0 (ZS (fl_cN (uI N 6 (N 6 + 1)) (ab_dep fl_KL (29 % 500))), ab_save S (KS N), P, X) (fun r σ2 h9 => ⟨h9.2.1.trans (reb_0 rfl), h9.2.2⟩) rfl gL_isQueued_X4_rebuild rfl ⟨rfl, rfl⟩ ok_X4_rebuild ⟨Nat.le_of_ble_eq_true rfl, Nat.le_of_ble_eq_true rfl⟩ (Nat.le_of_ble_eq_true rfl) dL_isQueued_263 ⟨Nat.le_of_ble_eq_true rfl, Nat.le_of_ble_eq_true rfl⟩ (fun w3 hW3 => ?_)
    refine V_if_ne (tgt := 334) (X := False) (Y := True) hc dL_isQueued_266 (by decide) ⟨by decide, fun h => absurd h (by decide), fun _ => trivial⟩ (fun h => h.elim) (fun _ => ?_)
    refine V_aload_n hc dL_isQueued_269 0 rfl ?_
    refine V_iconst hc dL_isQueued_270 ?_
    refine V_fd (As := [.int (iI 4)]) hc (fc_rebuild hl0 hW3 hI1 (by decide)) (fun j h9 => h9.2.1 ⟨by decide, by decide⟩) (-1) (ZS (fl_cN (uI N 6 (N 6 + 1)) (ab_dep fl_KL (29 % 500))), ab_save S (KS N), P, X) (fun r σ2 h9 => ⟨h9.2.1.trans (reb_4 rfl), h9.2.2⟩) rfl gL_isQueued_X4_rebuild rfl ⟨rfl, rfl⟩ ok_X4_rebuild ⟨Nat.le_of_ble_eq_true rfl, Nat.le_of_ble_eq_true rfl⟩ (Nat.le_of_ble_eq_true rfl) dL_isQueued_271 ⟨Nat.le_of_ble_eq_true rfl, Nat.le_of_ble_eq_true rfl⟩ (fun w4 hW4 => ?_)
    refine V_iconst hc dL_isQueued_274 ?_
    refine V_icmp_ne (tgt := 334) (X := False) (Y := True) hc dL_isQueued_275 (by decide) ⟨by decide, by decide, fun h => absurd h (by decide), fun _ => trivial⟩ (fun h => h.elim) (fun _ => ?_)
    refine V_aload_n hc dL_isQueued_278 0 rfl ?_
    refine V_iconst hc dL_isQueued_279 ?_
    refine V_fd (As := [.int (iI 0)]) hc (fc_queued hl0 hW4 hI1 (by decide)) (fun j h9 => absurd h9.2.1 (by decide)) (-1) (ZS (fl_cN (uI N 6 (N 6 + 1)) (ab_dep fl_KL (29 % 500))), ab_save S (KS N), P, X) (fun r σ2 h9 => ⟨h9.2.1.trans (rfl), h9.2.2⟩) rfl gL_isQueued_X4_queued rfl ⟨rfl, rfl⟩ ok_X4_queued ⟨Nat.le_of_ble_eq_true rfl, Nat.le_of_ble_eq_true rfl⟩ (Nat.le_of_ble_eq_true rfl) dL_isQueued_280 ⟨Nat.le_of_ble_eq_true rfl, Nat.le_of_ble_eq_true rfl⟩ (fun w5 hW5 => ?_)
    refine V_iconst hc dL_isQueued_283 ?_
    refine V_icmp_ne (tgt := 334) (X := False) (Y := True) hc dL_isQueued_284 (by decide) ⟨by decide, by decide, fun h => absurd h (by decide), fun _ => trivial⟩ (fun h => h.elim) (fun _ => ?_)
    refine V_aload_n hc dL_isQueued_287 0 rfl ?_
    refine V_iconst hc dL_isQueued_288 ?_
    refine V_iconst hc dL_isQueued_289 ?_
    refine V_fd (As := [.int (iI 1), .int (iI 0)]) hc (fc_tree hl0 hW5 hI1 (by decide) (by decide)) (fun j h9 => h9.2.1 ⟨by decide, by decide⟩) 0 (ZS (fl_cN (uI N 6 (N 6 + 1)) (ab_dep fl_KL (29 % 500))), ab_save S (KS N), P, X) (fun r σ2 h9 => ⟨(h9.2.1.trans (if_neg (by decide))).trans (tr_0.trans rfl), h9.2.2⟩) rfl gL_isQueued_X4_tree rfl ⟨rfl, rfl⟩ ok_X4_tree ⟨Nat.le_of_ble_eq_true rfl, Nat.le_of_ble_eq_true rfl⟩ (Nat.le_of_ble_eq_true rfl) dL_isQueued_290 ⟨Nat.le_of_ble_eq_true rfl, Nat.le_of_ble_eq_true rfl⟩ (fun w6 hW6 => ?_)
    refine V_if_ne (tgt := 334) (X := False) (Y := True) hc dL_isQueued_293 (by decide) ⟨by decide, fun h => absurd h (by decide), fun _ => trivial⟩ (fun h => h.elim) (fun _ => ?_)
    refine V_aload_n hc dL_isQueued_296 0 rfl ?_
    refine V_iconst hc dL_isQueued_297 ?_
    refine V_iconst hc dL_isQueued_298 ?_
    refine V_fd (As := [.int (iI 0), .int (iI 0)]) hc (fc_tree hl0 hW6 hI1 (by decide) (by decide)) (fun j h9 => h9.2.1 ⟨by decide, by decide⟩) 120 (ZS (fl_cN (uI N 6 (N 6 + 1)) (ab_dep fl_KL (29 % 500))), ab_save S (KS N), P, X) (fun r σ2 h9 => ⟨(h9.2.1.trans (if_pos rfl)).trans (tr_0.trans (show ((fl_KL.length : Nat) : Int) = 120 from by rw [fl_len.1] <;> rfl)), h9.2.2⟩) rfl gL_isQueued_X4_tree rfl ⟨rfl, rfl⟩ ok_X4_tree ⟨Nat.le_of_ble_eq_true rfl, Nat.le_of_ble_eq_true rfl⟩ (Nat.le_of_ble_eq_true rfl) dL_isQueued_299 ⟨Nat.le_of_ble_eq_true rfl, Nat.le_of_ble_eq_true rfl⟩ (fun w7 hW7 => ?_)
    refine V_bipush hc dL_isQueued_302 (by decide) ?_
    refine V_icmp_ne (tgt := 334) (X := False) (Y := True) hc dL_isQueued_304 (by decide) ⟨by decide, by decide, fun h => absurd h (by decide), fun _ => trivial⟩ (fun h => h.elim) (fun _ => ?_)
    refine V_aload_n hc dL_isQueued_307 0 rfl ?_
    refine V_iconst hc dL_isQueued_308 ?_
    refine V_iconst hc dL_isQueued_309 ?_
    refine V_fd (As := [.int (iI 0), .int (iI 2)]) hc (fc_tree hl0 hW7 hI1 (by decide) (by decide)) (fun j h9 => h9.2.1 ⟨by decide, by decide⟩) 29 (ZS (fl_cN (uI N 6 (N 6 + 1)) (ab_dep fl_KL (29 % 500))), ab_save S (KS N), P, X) (fun r σ2 h9 => ⟨(h9.2.1.trans (if_pos rfl)).trans (tr_2.trans (show ((fl_KL.length : Nat) : Int) - ab_np fl_KL fl_z = 29 from by rw [fl_np9, fl_len.1] <;> rfl)), h9.2.2⟩) rfl gL_isQueued_X4_tree rfl ⟨rfl, rfl⟩ ok_X4_tree ⟨Nat.le_of_ble_eq_true rfl, Nat.le_of_ble_eq_true rfl⟩ (Nat.le_of_ble_eq_true rfl) dL_isQueued_310 ⟨Nat.le_of_ble_eq_true rfl, Nat.le_of_ble_eq_true rfl⟩ (fun w8 hW8 => ?_)
    refine V_bipush hc dL_isQueued_313 (by decide) ?_
    refine V_icmp_ne (tgt := 334) (X := False) (Y := True) hc dL_isQueued_315 (by decide) ⟨by decide, by decide, fun h => absurd h (by decide), fun _ => trivial⟩ (fun h => h.elim) (fun _ => ?_)
    refine V_aload_n hc dL_isQueued_318 0 rfl ?_
    refine V_iconst hc dL_isQueued_319 ?_
    refine V_iconst hc dL_isQueued_320 ?_
    refine V_iconst hc dL_isQueued_321 ?_
    refine V_lc (As := [.ref hB, .int (iI 3), .int (iI 0), .int (iI 0)]) (hh := [(0, 158, 159, 51), (0, 158, 164, 53), (0, 158, 169, 55)]) hc hG (lc_call_3 hl0 hW8 hI1 (by decide) (by decide)) (-12) (ZS (fl_cN (uI N 6 (N 6 + 1)) (ab_dep fl_KL (29 % 500))), ab_save S (KS N), P, X) (dr_abandon rfl) rfl gL_isQueued_L_call rfl ⟨rfl, rfl⟩ ok_L_call ⟨Nat.le_of_ble_eq_true rfl, Nat.le_of_ble_eq_true rfl⟩ (Nat.le_of_ble_eq_true rfl) dL_isQueued_322 ⟨Nat.le_of_ble_eq_true rfl, Nat.le_of_ble_eq_true rfl⟩ (fun w9 hW9 => ?_)
    refine V_bipush hc dL_isQueued_325 (by decide) ?_
    refine V_icmp_ne (tgt := 334) (X := False) (Y := True) hc dL_isQueued_327 (by decide) ⟨by decide, by decide, fun h => absurd h (by decide), fun _ => trivial⟩ (fun h => h.elim) (fun _ => ?_)
    refine V_iconst hc dL_isQueued_330 ?_
    refine V_goto (tgt := 335) hc dL_isQueued_331 (by decide) ?_
    refine V_istore_n hc dL_isQueued_335 [(1, .int (iI 1)), (0, .ref hB)] (Nat.le_of_ble_eq_true rfl) rfl ?_
    refine V_lv [1, 0] [(0, .ref hB), (1, .int (iI 1))] rfl ?_
    refine V_widen (k1 := 235) (n1 := 1410) (Nat.le_of_ble_eq_true rfl) (Nat.le_of_ble_eq_true rfl) ?_
    exact E4 _ _ _ hW9 hI1 g0 (by show N 6 + 1 = 1; omega)
  have E2 : ∀ (N : Nat → Int) (S : List aS) (w : va_W), CW t hB w (JS 30 N, S, P, X) → ivE (JS 30 N, S, P, X) → (N 5 = 0) → (N 6 = 0) → V p l e rm_L_isQueued s m args below meth c D A 3 215 1290 (MQ below (QI D A idW (fun r (_ : va_W) => r = 1)) args s 257 1542 A) 136 [(0, .ref hB), (1, .int (iI 1))] [] w := by
    intro N S w hW hI g0 g1
    have e1 : sB (JS 30 N, S, P, X) (ab_act (JS 30 N, S, P, X).1 (4 * 7 + 1 + 500)).2 = (KS (fl_cN N (ab_dep fl_KL ((29 + 500) % 500) + 1)), ab_save S (JS 30 N), P, X) := congrArg (fun B => ((B, ab_save S (JS 30 N), P, X) : aW)) (fl_rem7 (N := N)).2
    have hI1 : ivE (KS (fl_cN N (ab_dep fl_KL ((29 + 500) % 500) + 1)), ab_save S (JS 30 N), P, X) := by
      have q := ivE_rem hI (x := 4 * 7 + 1) ⟨by decide, by decide⟩
      rw [e1] at q
      exact q
    have hls := fl_ls8 (KS_cl (fl_cN N (ab_dep fl_KL ((29 + 500) % 500) + 1)))
    refine V_iload_n hc dL_isQueued_136 1 rfl ?_
    refine V_if_eq (tgt := 230) (X := False) (Y := True) hc dL_isQueued_137 (by decide) ⟨by decide, fun h => absurd h (by decide), fun _ => trivial⟩ (fun h => h.elim) (fun _ => ?_)
    refine V_aload_n hc dL_isQueued_140 0 rfl ?_
    refine V_iconst hc dL_isQueued_141 ?_
    refine V_bipush hc dL_isQueued_142 (by decide) ?_
    refine V_ls (As := [.int (iI 7)]) (W1 := fun _ : Unit => []) (wc := []) (wr := w) hc hG (List.Perm.refl _) (lm_keyOf (x := 7)) rfl gL_isQueued_L_keyOf rfl ⟨rfl, rfl⟩ ok_L_keyOf ⟨Nat.le_of_ble_eq_true rfl, Nat.le_of_ble_eq_true rfl⟩ (Nat.le_of_ble_eq_true rfl) dL_isQueued_144 ⟨Nat.le_of_ble_eq_true rfl, Nat.le_of_ble_eq_true rfl⟩ (fun r9 _ h9 => ?_)
    subst h9
    refine V_weq (ws1 := w) rfl ?_
    refine V_iconst hc dL_isQueued_147 ?_
    refine V_lc (As := [.ref hB, .int (iI 1), .int (iI (4 * 7 + 1)), .int (iI 0)]) (hh := [(0, 158, 159, 51), (0, 158, 164, 53), (0, 158, 169, 55)]) hc hG (lc_call_1 hl0 hW hI (by decide) (by decide)) 0 (KS (fl_cN N (ab_dep fl_KL ((29 + 500) % 500) + 1)), ab_save S (JS 30 N), P, X) (dkc (dk_rem0 ⟨by decide, by decide⟩ (fl_rem7 (N := N)).1) rfl e1) rfl gL_isQueued_L_call rfl ⟨rfl, rfl⟩ ok_L_call ⟨Nat.le_of_ble_eq_true rfl, Nat.le_of_ble_eq_true rfl⟩ (Nat.le_of_ble_eq_true rfl) dL_isQueued_148 ⟨Nat.le_of_ble_eq_true rfl, Nat.le_of_ble_eq_true rfl⟩ (fun w1 hW1 => ?_)
    refine V_if_ne (tgt := 230) (X := False) (Y := True) hc dL_isQueued_151 (by decide) ⟨by decide, fun h => absurd h (by decide), fun _ => trivial⟩ (fun h => h.elim) (fun _ => ?_)
    refine V_aload_n hc dL_isQueued_154 0 rfl ?_
    refine V_iconst hc dL_isQueued_155 ?_
    refine V_fd (As := [.int (iI 3)]) hc (fc_rebuild hl0 hW1 hI1 (by decide)) (fun j h9 => h9.2.1 ⟨by decide, by decide⟩) 30 (KS (fl_cN N (ab_dep fl_KL ((29 + 500) % 500) + 1)), ab_save S (JS 30 N), P, X) (fun r σ2 h9 => ⟨h9.2.1.trans ((reb_3 rfl).trans (by show ((fl_Q 30).length : Int) = 30; rw [fl_Q_len] <;> rfl)), h9.2.2⟩) rfl gL_isQueued_X4_rebuild rfl ⟨rfl, rfl⟩ ok_X4_rebuild ⟨Nat.le_of_ble_eq_true rfl, Nat.le_of_ble_eq_true rfl⟩ (Nat.le_of_ble_eq_true rfl) dL_isQueued_156 ⟨Nat.le_of_ble_eq_true rfl, Nat.le_of_ble_eq_true rfl⟩ (fun w2 hW2 => ?_)
    refine V_bipush hc dL_isQueued_159 (by decide) ?_
    refine V_icmp_ne (tgt := 230) (X := False) (Y := True) hc dL_isQueued_161 (by decide) ⟨by decide, by decide, fun h => absurd h (by decide), fun _ => trivial⟩ (fun h => h.elim) (fun _ => ?_)
    refine V_aload_n hc dL_isQueued_164 0 rfl ?_
    refine V_iconst hc dL_isQueued_165 ?_
    refine V_fd (As := [.int (iI 2)]) hc (fc_rebuild hl0 hW2 hI1 (by decide)) (fun j h9 => h9.2.1 ⟨by decide, by decide⟩) 31 (KS (fl_cN N (ab_dep fl_KL ((29 + 500) % 500) + 1)), ab_save S (JS 30 N), P, X) (fun r σ2 h9 => ⟨h9.2.1.trans ((reb_2 rfl).trans rfl), h9.2.2⟩) rfl gL_isQueued_X4_rebuild rfl ⟨rfl, rfl⟩ ok_X4_rebuild ⟨Nat.le_of_ble_eq_true rfl, Nat.le_of_ble_eq_true rfl⟩ (Nat.le_of_ble_eq_true rfl) dL_isQueued_166 ⟨Nat.le_of_ble_eq_true rfl, Nat.le_of_ble_eq_true rfl⟩ (fun w3 hW3 => ?_)
    refine V_bipush hc dL_isQueued_169 (by decide) ?_
    refine V_icmp_ne (tgt := 230) (X := False) (Y := True) hc dL_isQueued_171 (by decide) ⟨by decide, by decide, fun h => absurd h (by decide), fun _ => trivial⟩ (fun h => h.elim) (fun _ => ?_)
    refine V_aload_n hc dL_isQueued_174 0 rfl ?_
    refine V_iconst hc dL_isQueued_175 ?_
    refine V_fd (As := [.int (iI 1)]) hc (fc_untilExchange hl0 hW3 hI1 (by decide)) (fun j h9 => h9.2.1 ⟨by decide, by decide⟩) 119 (KS (fl_cN N (ab_dep fl_KL ((29 + 500) % 500) + 1)), ab_save S (JS 30 N), P, X) (fun r σ2 h9 => ⟨(h9.2.1.trans (if_pos rfl)).trans ((KS_cl _ _).trans rfl), h9.2.2⟩) rfl gL_isQueued_X4_untilExchange rfl ⟨rfl, rfl⟩ ok_X4_untilExchange ⟨Nat.le_of_ble_eq_true rfl, Nat.le_of_ble_eq_true rfl⟩ (Nat.le_of_ble_eq_true rfl) dL_isQueued_176 ⟨Nat.le_of_ble_eq_true rfl, Nat.le_of_ble_eq_true rfl⟩ (fun w4 hW4 => ?_)
    refine V_bipush hc dL_isQueued_179 (by decide) ?_
    refine V_icmp_ne (tgt := 230) (X := False) (Y := True) hc dL_isQueued_181 (by decide) ⟨by decide, by decide, fun h => absurd h (by decide), fun _ => trivial⟩ (fun h => h.elim) (fun _ => ?_)
    refine V_aload_n hc dL_isQueued_184 0 rfl ?_
    refine V_bipush hc dL_isQueued_185 (by decide) ?_
    refine V_fd (As := [.int (iI 8)]) hc (fc_untilExchange hl0 hW4 hI1 (by decide)) (fun j h9 => h9.2.1 ⟨by decide, by decide⟩) 15 (KS (fl_cN N (ab_dep fl_KL ((29 + 500) % 500) + 1)), ab_save S (JS 30 N), P, X) (fun r σ2 h9 => ⟨(h9.2.1.trans (if_pos rfl)).trans ((KS_cl _ _).trans rfl), h9.2.2⟩) rfl gL_isQueued_X4_untilExchange rfl ⟨rfl, rfl⟩ ok_X4_untilExchange ⟨Nat.le_of_ble_eq_true rfl, Nat.le_of_ble_eq_true rfl⟩ (Nat.le_of_ble_eq_true rfl) dL_isQueued_187 ⟨Nat.le_of_ble_eq_true rfl, Nat.le_of_ble_eq_true rfl⟩ (fun w5 hW5 => ?_)
    refine V_bipush hc dL_isQueued_190 (by decide) ?_
    refine V_icmp_ne (tgt := 230) (X := False) (Y := True) hc dL_isQueued_192 (by decide) ⟨by decide, by decide, fun h => absurd h (by decide), fun _ => trivial⟩ (fun h => h.elim) (fun _ => ?_)
    refine V_aload_n hc dL_isQueued_195 0 rfl ?_
    refine V_bipush hc dL_isQueued_196 (by decide) ?_
    refine V_fd (As := [.int (iI 15)]) hc (fc_leastSpeed hl0 hW5 hI1 (by decide)) (fun j h9 => absurd h9.2.1 (by decide)) 8 (KS (fl_cN N (ab_dep fl_KL ((29 + 500) % 500) + 1)), ab_save S (JS 30 N), P, X) (fun r σ2 h9 => ⟨ls_det rfl (hls.1) h9.2.1, h9.2.2⟩) rfl gL_isQueued_X4_leastSpeed rfl ⟨rfl, rfl⟩ ok_X4_leastSpeed ⟨Nat.le_of_ble_eq_true rfl, Nat.le_of_ble_eq_true rfl⟩ (Nat.le_of_ble_eq_true rfl) dL_isQueued_198 ⟨Nat.le_of_ble_eq_true rfl, Nat.le_of_ble_eq_true rfl⟩ (fun w6 hW6 => ?_)
    refine V_bipush hc dL_isQueued_201 (by decide) ?_
    refine V_icmp_ne (tgt := 230) (X := False) (Y := True) hc dL_isQueued_203 (by decide) ⟨by decide, by decide, fun h => absurd h (by decide), fun _ => trivial⟩ (fun h => h.elim) (fun _ => ?_)
    refine V_aload_n hc dL_isQueued_206 0 rfl ?_
    refine V_bipush hc dL_isQueued_207 (by decide) ?_
    refine V_fd (As := [.int (iI 14)]) hc (fc_leastSpeed hl0 hW6 hI1 (by decide)) (fun j h9 => absurd h9.2.1 (by decide)) (-1) (KS (fl_cN N (ab_dep fl_KL ((29 + 500) % 500) + 1)), ab_save S (JS 30 N), P, X) (fun r σ2 h9 => ⟨ls_det rfl (hls.2.1) h9.2.1, h9.2.2⟩) rfl gL_isQueued_X4_leastSpeed rfl ⟨rfl, rfl⟩ ok_X4_leastSpeed ⟨Nat.le_of_ble_eq_true rfl, Nat.le_of_ble_eq_true rfl⟩ (Nat.le_of_ble_eq_true rfl) dL_isQueued_209 ⟨Nat.le_of_ble_eq_true rfl, Nat.le_of_ble_eq_true rfl⟩ (fun w7 hW7 => ?_)
    refine V_iconst hc dL_isQueued_212 ?_
    refine V_icmp_ne (tgt := 230) (X := False) (Y := True) hc dL_isQueued_213 (by decide) ⟨by decide, by decide, fun h => absurd h (by decide), fun _ => trivial⟩ (fun h => h.elim) (fun _ => ?_)
    refine V_aload_n hc dL_isQueued_216 0 rfl ?_
    refine V_bipush hc dL_isQueued_217 (by decide) ?_
    refine V_fd (As := [.int (iI 119)]) hc (fc_leastSpeed hl0 hW7 hI1 (by decide)) (fun j h9 => absurd h9.2.1 (by decide)) 1 (KS (fl_cN N (ab_dep fl_KL ((29 + 500) % 500) + 1)), ab_save S (JS 30 N), P, X) (fun r σ2 h9 => ⟨ls_det rfl (hls.2.2) h9.2.1, h9.2.2⟩) rfl gL_isQueued_X4_leastSpeed rfl ⟨rfl, rfl⟩ ok_X4_leastSpeed ⟨Nat.le_of_ble_eq_true rfl, Nat.le_of_ble_eq_true rfl⟩ (Nat.le_of_ble_eq_true rfl) dL_isQueued_219 ⟨Nat.le_of_ble_eq_true rfl, Nat.le_of_ble_eq_true rfl⟩ (fun w8 hW8 => ?_)
    refine V_iconst hc dL_isQueued_222 ?_
    refine V_icmp_ne (tgt := 230) (X := False) (Y := True) hc dL_isQueued_223 (by decide) ⟨by decide, by decide, fun h => absurd h (by decide), fun _ => trivial⟩ (fun h => h.elim) (fun _ => ?_)
    refine V_iconst hc dL_isQueued_226 ?_
    refine V_goto (tgt := 231) hc dL_isQueued_227 (by decide) ?_
    refine V_istore_n hc dL_isQueued_231 [(1, .int (iI 1)), (0, .ref hB)] (Nat.le_of_ble_eq_true rfl) rfl ?_
    refine V_lv [1, 0] [(0, .ref hB), (1, .int (iI 1))] rfl ?_
    refine V_widen (k1 := 224) (n1 := 1344) (Nat.le_of_ble_eq_true rfl) (Nat.le_of_ble_eq_true rfl) ?_
    exact E3 _ _ _ hW8 hI1 g0 g1
  have L1 : ∀ (n k : Nat) (N : Nat → Int) (S : List aS) (w : va_W), k + n = 30 → CW t hB w (JS k N, S, P, X) → ivE (JS k N, S, P, X) → N 5 = 0 → N 6 = 0 → V p l e rm_L_isQueued s m args below meth c D A 3 (5 + 7 * k) (30 + 42 * k) (MQ below (QI D A idW (fun r (_ : va_W) => r = 1)) args s 257 1542 A) 41 [(0, .ref hB), (1, .int (iI 1)), (2, .int (iI (k : Int)))] [] w := by
    intro n
    induction n with
    | zero =>
      intro k N S w hk hW hI g0 g1
      obtain rfl : 30 = k := by omega
      refine V_iload_n hc dL_isQueued_41 2 rfl ?_
      refine V_bipush hc dL_isQueued_42 (by decide) ?_
      refine V_icmp_ge (tgt := 136) (X := True) (Y := False) hc dL_isQueued_44 (by decide) ⟨by decide, by decide, fun _ => trivial, fun h => h (by decide)⟩ (fun _ => ?_) (fun h => h.elim)
      refine V_lv [0, 1] [(0, .ref hB), (1, .int (iI 1))] rfl ?_
      refine V_widen (k1 := 215) (n1 := 1290) (by omega) (by omega) ?_
      exact E2 _ _ _ hW hI g0 g1
    | succ n ih =>
      intro k N S w hk hW hI g0 g1
      have hk3 : k < 30 := by omega
      have e1 : sB (JS k N, S, P, X) (ab_act (JS k N, S, P, X).1 (4 * (k : Int) + 1 + 500)).2 = (JS (k + 1) (fl_cN N (ab_dep fl_KL ((4 * (k : Int) + 1 + 500) % 500) + 1)), ab_save S (JS k N), P, X) := congrArg (fun B => ((B, ab_save S (JS k N), P, X) : aW)) (fl_rem hk3 (N := N)).2
      have hI1 : ivE (JS (k + 1) (fl_cN N (ab_dep fl_KL ((4 * (k : Int) + 1 + 500) % 500) + 1)), ab_save S (JS k N), P, X) := by
        have q := ivE_rem hI (x := 4 * (k : Int) + 1) ⟨by omega, by omega⟩
        rw [e1] at q
        exact q
      have hUl : ((fl_M.take (k + 1)).length : Int) = ((k + 1 : Nat) : Int) := by rw [List.length_take, fl_len.2.1]; omega
      refine V_iload_n hc dL_isQueued_41 2 rfl ?_
      refine V_bipush hc dL_isQueued_42 (by decide) ?_
      refine V_icmp_ge (tgt := 136) (X := False) (Y := True) hc dL_isQueued_44 (by decide) ⟨by omega, by decide, fun h => absurd h (by omega), fun _ => trivial⟩ (fun h => h.elim) (fun _ => ?_)
      refine V_iload_n hc dL_isQueued_47 1 rfl ?_
      refine V_if_eq (tgt := 136) (X := False) (Y := True) hc dL_isQueued_48 (by decide) ⟨by decide, fun h => absurd h (by decide), fun _ => trivial⟩ (fun h => h.elim) (fun _ => ?_)
      refine V_aload_n hc dL_isQueued_51 0 rfl ?_
      refine V_iconst hc dL_isQueued_52 ?_
      refine V_iload_n hc dL_isQueued_53 2 rfl ?_
      refine V_ls (As := [.int (iI (k : Int))]) (W1 := fun _ : Unit => []) (wc := []) (wr := w) hc hG (List.Perm.refl _) (lm_keyOf (x := (k : Int))) rfl gL_isQueued_L_keyOf rfl ⟨rfl, rfl⟩ ok_L_keyOf ⟨Nat.le_of_ble_eq_true rfl, Nat.le_of_ble_eq_true rfl⟩ (Nat.le_of_ble_eq_true rfl) dL_isQueued_54 ⟨Nat.le_trans (m := 257) (by omega) (Nat.le_of_ble_eq_true rfl), Nat.le_trans (m := 1542) (by omega) (Nat.le_of_ble_eq_true rfl)⟩ (fun r9 _ h9 => ?_)
      subst h9
      refine V_weq (ws1 := w) rfl ?_
      refine V_iconst hc dL_isQueued_57 ?_
      refine V_lc (As := [.ref hB, .int (iI 1), .int (iI (4 * (k : Int) + 1)), .int (iI 0)]) (hh := [(0, 158, 159, 51), (0, 158, 164, 53), (0, 158, 169, 55)]) hc hG (lc_call_1 hl0 hW hI (by omega) (by decide)) 1 (JS (k + 1) (fl_cN N (ab_dep fl_KL ((4 * (k : Int) + 1 + 500) % 500) + 1)), ab_save S (JS k N), P, X) (dkc (dk_rem1 ⟨by omega, by omega⟩ (fl_rem hk3 (N := N)).1) rfl e1) rfl gL_isQueued_L_call rfl ⟨rfl, rfl⟩ ok_L_call ⟨Nat.le_of_ble_eq_true rfl, Nat.le_of_ble_eq_true rfl⟩ (Nat.le_of_ble_eq_true rfl) dL_isQueued_58 ⟨Nat.le_trans (m := 257) (by omega) (Nat.le_of_ble_eq_true rfl), Nat.le_trans (m := 1542) (by omega) (Nat.le_of_ble_eq_true rfl)⟩ (fun w1 hW1 => ?_)
      refine V_iconst hc dL_isQueued_61 ?_
      refine V_icmp_ne (tgt := 128) (X := False) (Y := True) hc dL_isQueued_62 (by decide) ⟨by decide, by decide, fun h => absurd h (by decide), fun _ => trivial⟩ (fun h => h.elim) (fun _ => ?_)
      refine V_aload_n hc dL_isQueued_65 0 rfl ?_
      refine V_iconst hc dL_isQueued_66 ?_
      refine V_fd (As := [.int (iI 2)]) hc (fc_rebuild hl0 hW1 hI1 (by decide)) (fun j h9 => h9.2.1 ⟨by decide, by decide⟩) ((k + 1 : Nat) : Int) (JS (k + 1) (fl_cN N (ab_dep fl_KL ((4 * (k : Int) + 1 + 500) % 500) + 1)), ab_save S (JS k N), P, X) (fun r σ2 h9 => ⟨h9.2.1.trans ((reb_2 rfl).trans rfl), h9.2.2⟩) rfl gL_isQueued_X4_rebuild rfl ⟨rfl, rfl⟩ ok_X4_rebuild ⟨Nat.le_of_ble_eq_true rfl, Nat.le_of_ble_eq_true rfl⟩ (Nat.le_of_ble_eq_true rfl) dL_isQueued_67 ⟨Nat.le_trans (m := 257) (by omega) (Nat.le_of_ble_eq_true rfl), Nat.le_trans (m := 1542) (by omega) (Nat.le_of_ble_eq_true rfl)⟩ (fun w2 hW2 => ?_)
      refine V_iload_n hc dL_isQueued_70 2 rfl ?_
      refine V_iconst hc dL_isQueued_71 ?_
      refine V_iadd hc dL_isQueued_72 ?_
      refine V_neF (tgt := 128) hc dL_isQueued_73 (by decide) (by omega) ?_
      refine V_aload_n hc dL_isQueued_76 0 rfl ?_
      refine V_iconst hc dL_isQueued_77 ?_
      refine V_fd (As := [.int (iI 3)]) hc (fc_rebuild hl0 hW2 hI1 (by decide)) (fun j h9 => h9.2.1 ⟨by decide, by decide⟩) ((k + 1 : Nat) : Int) (JS (k + 1) (fl_cN N (ab_dep fl_KL ((4 * (k : Int) + 1 + 500) % 500) + 1)), ab_save S (JS k N), P, X) (fun r σ2 h9 => ⟨h9.2.1.trans ((reb_3 rfl).trans (by show ((fl_Q (k + 1)).length : Int) = _; rw [fl_Q_len])), h9.2.2⟩) rfl gL_isQueued_X4_rebuild rfl ⟨rfl, rfl⟩ ok_X4_rebuild ⟨Nat.le_of_ble_eq_true rfl, Nat.le_of_ble_eq_true rfl⟩ (Nat.le_of_ble_eq_true rfl) dL_isQueued_78 ⟨Nat.le_trans (m := 257) (by omega) (Nat.le_of_ble_eq_true rfl), Nat.le_trans (m := 1542) (by omega) (Nat.le_of_ble_eq_true rfl)⟩ (fun w3 hW3 => ?_)
      refine V_iload_n hc dL_isQueued_81 2 rfl ?_
      refine V_iconst hc dL_isQueued_82 ?_
      refine V_iadd hc dL_isQueued_83 ?_
      refine V_neF (tgt := 128) hc dL_isQueued_84 (by decide) (by omega) ?_
      refine V_aload_n hc dL_isQueued_87 0 rfl ?_
      refine V_iload_n hc dL_isQueued_88 2 rfl ?_
      refine V_fd (As := [.int (iI (k : Int))]) hc (fc_queued hl0 hW3 hI1 (by omega)) (fun j h9 => by have h8 := h9.2.1; omega) (500 + (4 * (k : Int) + 1)) (JS (k + 1) (fl_cN N (ab_dep fl_KL ((4 * (k : Int) + 1 + 500) % 500) + 1)), ab_save S (JS k N), P, X) (fun r σ2 h9 => ⟨h9.2.1.trans (fl_Q_at k), h9.2.2⟩) rfl gL_isQueued_X4_queued rfl ⟨rfl, rfl⟩ ok_X4_queued ⟨Nat.le_of_ble_eq_true rfl, Nat.le_of_ble_eq_true rfl⟩ (Nat.le_of_ble_eq_true rfl) dL_isQueued_89 ⟨Nat.le_trans (m := 257) (by omega) (Nat.le_of_ble_eq_true rfl), Nat.le_trans (m := 1542) (by omega) (Nat.le_of_ble_eq_true rfl)⟩ (fun w4 hW4 => ?_)
      refine V_sipush hc dL_isQueued_92 (by decide) ?_
      refine V_iload_n hc dL_isQueued_95 2 rfl ?_
      refine V_ls (As := [.int (iI (k : Int))]) (W1 := fun _ : Unit => []) (wc := []) (wr := w4) hc hG (List.Perm.refl _) (lm_keyOf (x := (k : Int))) rfl gL_isQueued_L_keyOf rfl ⟨rfl, rfl⟩ ok_L_keyOf ⟨Nat.le_of_ble_eq_true rfl, Nat.le_of_ble_eq_true rfl⟩ (Nat.le_of_ble_eq_true rfl) dL_isQueued_96 ⟨Nat.le_trans (m := 257) (by omega) (Nat.le_of_ble_eq_true rfl), Nat.le_trans (m := 1542) (by omega) (Nat.le_of_ble_eq_true rfl)⟩ (fun r9 _ h9 => ?_)
      subst h9
      refine V_weq (ws1 := w4) rfl ?_
      refine V_iadd hc dL_isQueued_99 ?_
      refine V_neF (tgt := 128) hc dL_isQueued_100 (by decide) rfl ?_
      refine V_aload_n hc dL_isQueued_103 0 rfl ?_
      refine V_iconst hc dL_isQueued_104 ?_
      refine V_iconst hc dL_isQueued_105 ?_
      refine V_fd (As := [.int (iI 1), .int (iI 0)]) hc (fc_tree hl0 hW4 hI1 (by decide) (by decide)) (fun j h9 => h9.2.1 ⟨by decide, by decide⟩) ((k + 1 : Nat) : Int) (JS (k + 1) (fl_cN N (ab_dep fl_KL ((4 * (k : Int) + 1 + 500) % 500) + 1)), ab_save S (JS k N), P, X) (fun r σ2 h9 => ⟨(h9.2.1.trans (if_neg (by decide))).trans (tr_0.trans hUl), h9.2.2⟩) rfl gL_isQueued_X4_tree rfl ⟨rfl, rfl⟩ ok_X4_tree ⟨Nat.le_of_ble_eq_true rfl, Nat.le_of_ble_eq_true rfl⟩ (Nat.le_of_ble_eq_true rfl) dL_isQueued_106 ⟨Nat.le_trans (m := 257) (by omega) (Nat.le_of_ble_eq_true rfl), Nat.le_trans (m := 1542) (by omega) (Nat.le_of_ble_eq_true rfl)⟩ (fun w5 hW5 => ?_)
      refine V_iload_n hc dL_isQueued_109 2 rfl ?_
      refine V_iconst hc dL_isQueued_110 ?_
      refine V_iadd hc dL_isQueued_111 ?_
      refine V_neF (tgt := 128) hc dL_isQueued_112 (by decide) (by omega) ?_
      refine V_aload_n hc dL_isQueued_115 0 rfl ?_
      refine V_bipush hc dL_isQueued_116 (by decide) ?_
      refine V_fd (As := [.int (iI 6)]) hc (fc_count hl0 hW5 hI1 (by decide)) (fun j h9 => h9.2.1 ⟨by decide, by decide⟩) 0 (JS (k + 1) (fl_cN N (ab_dep fl_KL ((4 * (k : Int) + 1 + 500) % 500) + 1)), ab_save S (JS k N), P, X) (fun r σ2 h9 => ⟨h9.2.1.trans (cn_6.trans (g1)), h9.2.2⟩) rfl gL_isQueued_X4_count rfl ⟨rfl, rfl⟩ ok_X4_count ⟨Nat.le_of_ble_eq_true rfl, Nat.le_of_ble_eq_true rfl⟩ (Nat.le_of_ble_eq_true rfl) dL_isQueued_118 ⟨Nat.le_trans (m := 257) (by omega) (Nat.le_of_ble_eq_true rfl), Nat.le_trans (m := 1542) (by omega) (Nat.le_of_ble_eq_true rfl)⟩ (fun w6 hW6 => ?_)
      refine V_if_ne (tgt := 128) (X := False) (Y := True) hc dL_isQueued_121 (by decide) ⟨by decide, fun h => absurd h (by decide), fun _ => trivial⟩ (fun h => h.elim) (fun _ => ?_)
      refine V_iconst hc dL_isQueued_124 ?_
      refine V_goto (tgt := 129) hc dL_isQueued_125 (by decide) ?_
      refine V_istore_n hc dL_isQueued_129 [(1, .int (iI 1)), (0, .ref hB), (2, .int (iI (k : Int)))] (Nat.le_of_ble_eq_true rfl) rfl ?_
      refine V_iinc hc dL_isQueued_130 2 rfl [(2, .int (iI ((k : Int) + 1))), (1, .int (iI 1)), (0, .ref hB)] (Nat.le_of_ble_eq_true rfl) rfl ?_
      refine V_goto (tgt := 41) hc dL_isQueued_133 (by decide) ?_
      refine V_lv [2, 1, 0] [(0, .ref hB), (1, .int (iI 1)), (2, .int (iI ((k + 1 : Nat) : Int)))] rfl ?_
      refine V_widen (k1 := 5 + 7 * (k + 1)) (n1 := 30 + 42 * (k + 1)) (by omega) (by omega) ?_
      exact ih (k + 1) _ _ _ (by omega) hW6 hI1 g0 g1
  have e1 : sB (FS N0, S0, P, X) (ab_beg (FS N0, S0, P, X).1) = (JS 0 (uI N0 4 (N0 4 + 1)), ab_save S0 (FS N0), P, X) := by
    show (((fl_KL, fl_0), ab_e0, (ab_lst fl_KL fl_0, 0, [], 1), fl_E, (uI N0 4 (N0 4 + 1))), ab_save S0 (FS N0), P, X) = (((fl_KL, fl_q 0), (fl_M.take 0, fl_0), (fl_M, 0, fl_Q 0, 1), fl_E, (uI N0 4 (N0 4 + 1))), ab_save S0 (FS N0), P, X)
    rw [fl_lst, fl_q_0] <;> rfl
  have hI1 : ivE (JS 0 (uI N0 4 (N0 4 + 1)), ab_save S0 (FS N0), P, X) := by
    have q := ivE_begin hI rfl
    rw [e1] at q
    exact q
  refine V_lv [0] [(0, .ref hB)] rfl ?_
  refine V_aload_n hc dL_isQueued_0 0 rfl ?_
  refine V_iconst hc dL_isQueued_1 ?_
  refine V_iconst hc dL_isQueued_2 ?_
  refine V_iconst hc dL_isQueued_3 ?_
  refine V_lc (As := [.ref hB, .int (iI 2), .int (iI 0), .int (iI 0)]) (hh := [(0, 158, 159, 51), (0, 158, 164, 53), (0, 158, 169, 55)]) hc hG (lc_call_2 hl0 hCW hI (by decide) (by decide)) 120 (JS 0 (uI N0 4 (N0 4 + 1)), ab_save S0 (FS N0), P, X) (dkc (dk_begin rfl) (by show (((ab_lst fl_KL fl_0).length : Nat) : Int) = 120; rw [fl_lst, fl_len.2.1] <;> rfl) e1) rfl gL_isQueued_L_call rfl ⟨rfl, rfl⟩ ok_L_call ⟨Nat.le_of_ble_eq_true rfl, Nat.le_of_ble_eq_true rfl⟩ (Nat.le_of_ble_eq_true rfl) dL_isQueued_4 ⟨Nat.le_of_ble_eq_true rfl, Nat.le_of_ble_eq_true rfl⟩ (fun w1 hW1 => ?_)
  refine V_bipush hc dL_isQueued_7 (by decide) ?_
  refine V_icmp_ne (tgt := 37) (X := False) (Y := True) hc dL_isQueued_9 (by decide) ⟨by decide, by decide, fun h => absurd h (by decide), fun _ => trivial⟩ (fun h => h.elim) (fun _ => ?_)
  refine V_aload_n hc dL_isQueued_12 0 rfl ?_
  refine V_iconst hc dL_isQueued_13 ?_
  refine V_iconst hc dL_isQueued_14 ?_
  refine V_iconst hc dL_isQueued_15 ?_
  refine V_lc (As := [.ref hB, .int (iI 2), .int (iI 0), .int (iI 0)]) (hh := [(0, 158, 159, 51), (0, 158, 164, 53), (0, 158, 169, 55)]) hc hG (lc_call_2 hl0 hW1 hI1 (by decide) (by decide)) (-12) (JS 0 (uI N0 4 (N0 4 + 1)), ab_save S0 (FS N0), P, X) (dr_begin rfl) rfl gL_isQueued_L_call rfl ⟨rfl, rfl⟩ ok_L_call ⟨Nat.le_of_ble_eq_true rfl, Nat.le_of_ble_eq_true rfl⟩ (Nat.le_of_ble_eq_true rfl) dL_isQueued_16 ⟨Nat.le_of_ble_eq_true rfl, Nat.le_of_ble_eq_true rfl⟩ (fun w2 hW2 => ?_)
  refine V_bipush hc dL_isQueued_19 (by decide) ?_
  refine V_icmp_ne (tgt := 37) (X := False) (Y := True) hc dL_isQueued_21 (by decide) ⟨by decide, by decide, fun h => absurd h (by decide), fun _ => trivial⟩ (fun h => h.elim) (fun _ => ?_)
  refine V_aload_n hc dL_isQueued_24 0 rfl ?_
  refine V_iconst hc dL_isQueued_25 ?_
  refine V_fd (As := [.int (iI 4)]) hc (fc_count hl0 hW2 hI1 (by decide)) (fun j h9 => h9.2.1 ⟨by decide, by decide⟩) 1 (JS 0 (uI N0 4 (N0 4 + 1)), ab_save S0 (FS N0), P, X) (fun r σ2 h9 => ⟨h9.2.1.trans (cn_4.trans (show N0 4 + 1 = 1 by omega)), h9.2.2⟩) rfl gL_isQueued_X4_count rfl ⟨rfl, rfl⟩ ok_X4_count ⟨Nat.le_of_ble_eq_true rfl, Nat.le_of_ble_eq_true rfl⟩ (Nat.le_of_ble_eq_true rfl) dL_isQueued_26 ⟨Nat.le_of_ble_eq_true rfl, Nat.le_of_ble_eq_true rfl⟩ (fun w3 hW3 => ?_)
  refine V_iconst hc dL_isQueued_29 ?_
  refine V_icmp_ne (tgt := 37) (X := False) (Y := True) hc dL_isQueued_30 (by decide) ⟨by decide, by decide, fun h => absurd h (by decide), fun _ => trivial⟩ (fun h => h.elim) (fun _ => ?_)
  refine V_iconst hc dL_isQueued_33 ?_
  refine V_goto (tgt := 38) hc dL_isQueued_34 (by decide) ?_
  refine V_istore_n hc dL_isQueued_38 [(1, .int (iI 1)), (0, .ref hB)] (Nat.le_of_ble_eq_true rfl) rfl ?_
  refine V_iconst hc dL_isQueued_39 ?_
  refine V_istore_n hc dL_isQueued_40 [(2, .int (iI 0)), (1, .int (iI 1)), (0, .ref hB)] (Nat.le_of_ble_eq_true rfl) rfl ?_
  refine V_lv [2, 1, 0] [(0, .ref hB), (1, .int (iI 1)), (2, .int (iI ((0 : Nat) : Int)))] rfl ?_
  refine V_widen (k1 := 5 + 7 * 0) (n1 := 30 + 42 * 0) (Nat.le_of_ble_eq_true rfl) (Nat.le_of_ble_eq_true rfl) ?_
  exact L1 30 0 _ _ _ rfl hW3 hI1 h5 h6
