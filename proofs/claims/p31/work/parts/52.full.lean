/-! isFull -/
def A0 : aS := (ab_e0, ab_e0, ([], 0, [], 0), ta_FIRST_VALUES, fun _ => 0)
def σ0 : aW := (A0, [], fun _ => none, [])
theorem iv0 : iv 0 σ0 := by
  refine ⟨⟨ab_g_e0, ab_g_e0, ⟨Nat.le_refl _, Nat.zero_le _, Nat.zero_le _, Or.inl rfl⟩, fun _ => ⟨rfl, rfl, rfl, rfl⟩, ⟨fun x hx => absurd hx List.not_mem_nil, fun x hx => absurd hx List.not_mem_nil, fun x hx => absurd hx List.not_mem_nil⟩, ⟨?_, ?_, ?_⟩, ?_⟩, fun B hB => absurd hB List.not_mem_nil, fun i B _ h => (by cases h), Nat.zero_le _, fun c hc => absurd hc List.not_mem_nil⟩
  · show 10 ≤ (50 : Int) ∧ (50 : Int) ≤ 100
    omega
  · show 3 ≤ (10 : Int) ∧ (10 : Int) ≤ 40
    omega
  · show 1 ≤ (2 : Int) ∧ (2 : Int) ≤ 8
    omega
  · show (0 ≤ (0 : Int) ∧ (0 : Int) ≤ 2000) ∧ (0 ≤ (0 : Int) ∧ (0 : Int) ≤ 2000) ∧ (0 ≤ (0 : Int) ∧ (0 : Int) ≤ 0)
    omega
abbrev FP (p : Nat) (N : Nat → Int) : aS := ((fl_KL.take p, fl_0), ab_e0, fl_J0, fl_E, N)
abbrev Pn : Nat → Option aS := fun _ => none
theorem FP_120 (N : Nat → Int) : FP 120 N = FS N := by
  show ((fl_KL.take 120, fl_0), ab_e0, fl_J0, fl_E, N) = ((fl_KL, fl_0), ab_e0, fl_J0, fl_E, N)
  rw [List.take_of_length_le (by rw [fl_len.1]; exact Nat.le_refl _)]
theorem fl_other {o : Int} (h : o % 4 = 3) : o ∉ fl_KL ∧ ¬ ab_room1 (fl_KL, fl_0) o := by
  have h1 : o ∉ fl_KL := fun q => by
    have := (fl_all o q).2
    omega
  refine ⟨h1, ?_⟩
  rintro (q | q)
  · exact h1 q
  · have q : fl_KL.length < 120 := q
    rw [fl_len.1] at q
    omega
theorem fl_hasI {i : Int} (h : 0 ≤ i ∧ i < 120) : 4 * i + 1 ∈ fl_KL := by
  have q := fl_has i.toNat (by omega)
  rw [Int.toNat_of_nonneg h.1] at q
  exact q
abbrev rm_L_isFull : Room := { frames := 10, cells := 733, slots := 4398, locals := 246 }
set_option maxHeartbeats 16000000 in
theorem lm_isFull {l : Launch} (hl0 : l.stackTraces = false) {D : va_G} {t : Nat → ClassId} {hB : Nat} {ws0 : va_W} (hCW : CW t hB ws0 σ0) {x : Int} (hx : 0 ≤ x ∧ x ≤ 2147483647) : MWi l D t yL_isFull wsL_isFull rm_L_isFull [.ref hB, .int (iI x)] ws0 idW (fun r (_ : va_W) => r = 1) 733 4398 := by
  refine M_ofgz (cc := cL_isFull) (nL := 6) (by decide) rfl (Nat.le_of_ble_eq_true rfl) ?_
  intro p e s m args below meth c A hc hG hr
  have hI0 : ivE σ0 := ⟨0, iv0⟩
  have hx120 : 0 ≤ x % 120 ∧ x % 120 < 120 := by omega
  have F100 : ∀ (N : Nat → Int) (S : List aS) (w : va_W), CW t hB w (FS N, S, Pn, []) → ivE (FS N, S, Pn, []) → N 4 = 0 → N 5 = 0 → N 6 = 0 → V p l e rm_L_isFull s m args below meth c D A 6 260 1560 (MQ below (QI D A idW (fun r (_ : va_W) => r = 1)) args s 733 4398 A) 100 [(0, .ref hB), (1, .int (iI x)), (2, .int (iI 1))] [] w := by
    intro N S w hW hI g4 g5 g6
    have hot := fl_other (o := 4 * (x % 120) + 3) (by omega)
    have hky := fl_hasI hx120
    have e1 : sB (FS N, S, Pn, []) (ab_act (FS N, S, Pn, ([] : List Int)).1 (4 * (x % 120) + 3 + 500)).2 = (FS (fl_cN N (ab_dep fl_KL ((4 * (x % 120) + 3 + 500) % 500))), ab_save S (FS N), Pn, ([] : List Int)) := congrArg (fun B => ((B, ab_save S (FS N), Pn, []) : aW)) (fl_same (N := N) (a := 4 * (x % 120) + 3 + 500) (by omega) (fl_t_rem hot.1 (by omega)))
    have hI1 : ivE (FS (fl_cN N (ab_dep fl_KL ((4 * (x % 120) + 3 + 500) % 500))), ab_save S (FS N), Pn, ([] : List Int)) := by
      have q := ivE_rem hI (x := 4 * (x % 120) + 3) ⟨by omega, by omega⟩
      rw [e1] at q
      exact q
    have e2 : sB (FS (fl_cN N (ab_dep fl_KL ((4 * (x % 120) + 3 + 500) % 500))), ab_save S (FS N), Pn, ([] : List Int)) (ab_act (FS (fl_cN N (ab_dep fl_KL ((4 * (x % 120) + 3 + 500) % 500))), ab_save S (FS N), Pn, ([] : List Int)).1 (4 * (x % 120) + 1)).2 = (FS (fl_cN (fl_cN N (ab_dep fl_KL ((4 * (x % 120) + 3 + 500) % 500))) (ab_dep fl_KL ((4 * (x % 120) + 1) % 500))), (ab_save (ab_save S (FS N)) (FS (fl_cN N (ab_dep fl_KL ((4 * (x % 120) + 3 + 500) % 500))))), Pn, ([] : List Int)) := congrArg (fun B => ((B, (ab_save (ab_save S (FS N)) (FS (fl_cN N (ab_dep fl_KL ((4 * (x % 120) + 3 + 500) % 500))))), Pn, []) : aW)) (fl_same (N := (fl_cN N (ab_dep fl_KL ((4 * (x % 120) + 3 + 500) % 500)))) (a := 4 * (x % 120) + 1) (by omega) (fl_t_add hky (by omega)))
    have hrm : ab_room1 (as_T (FS (fl_cN N (ab_dep fl_KL ((4 * (x % 120) + 3 + 500) % 500))), ab_save S (FS N), Pn, ([] : List Int)).1) (4 * (x % 120) + 1) := Or.inl hky
    have hI2 : ivE (FS (fl_cN (fl_cN N (ab_dep fl_KL ((4 * (x % 120) + 3 + 500) % 500))) (ab_dep fl_KL ((4 * (x % 120) + 1) % 500))), (ab_save (ab_save S (FS N)) (FS (fl_cN N (ab_dep fl_KL ((4 * (x % 120) + 3 + 500) % 500))))), Pn, ([] : List Int)) := by
      have q := ivE_add hI1 (x := 4 * (x % 120) + 1) ⟨by omega, by omega⟩ hrm
      rw [e2] at q
      exact q
    have hIa0 : ivE (FS (fl_cN (fl_cN N (ab_dep fl_KL ((4 * (x % 120) + 3 + 500) % 500))) (ab_dep fl_KL ((4 * (x % 120) + 1) % 500))), (ab_save (ab_save S (FS N)) (FS (fl_cN N (ab_dep fl_KL ((4 * (x % 120) + 3 + 500) % 500))))), Pn, ([46] : List Int)) := ivE_append hI2 (c := 46) (X := ([] : List Int)) (by decide) rfl (by decide)
    have hIa1 : ivE (FS (fl_cN (fl_cN N (ab_dep fl_KL ((4 * (x % 120) + 3 + 500) % 500))) (ab_dep fl_KL ((4 * (x % 120) + 1) % 500))), (ab_save (ab_save S (FS N)) (FS (fl_cN N (ab_dep fl_KL ((4 * (x % 120) + 3 + 500) % 500))))), Pn, ([46, 59] : List Int)) := ivE_append hIa0 (c := 59) (X := [46]) (by decide) rfl (by decide)
    have hIa2 : ivE (FS (fl_cN (fl_cN N (ab_dep fl_KL ((4 * (x % 120) + 3 + 500) % 500))) (ab_dep fl_KL ((4 * (x % 120) + 1) % 500))), (ab_save (ab_save S (FS N)) (FS (fl_cN N (ab_dep fl_KL ((4 * (x % 120) + 3 + 500) % 500))))), Pn, ([46, 59, 43] : List Int)) := ivE_append hIa1 (c := 43) (X := [46, 59]) (by decide) rfl (by decide)
    have hIa3 : ivE (FS (fl_cN (fl_cN N (ab_dep fl_KL ((4 * (x % 120) + 3 + 500) % 500))) (ab_dep fl_KL ((4 * (x % 120) + 1) % 500))), (ab_save (ab_save S (FS N)) (FS (fl_cN N (ab_dep fl_KL ((4 * (x % 120) + 3 + 500) % 500))))), Pn, ([46, 59, 43, 51] : List Int)) := ivE_append hIa2 (c := 51) (X := [46, 59, 43]) (by decide) rfl (by decide)
    have e3 : (((ab_exe [-1, 3] (FS (fl_cN (fl_cN N (ab_dep fl_KL ((4 * (x % 120) + 3 + 500) % 500))) (ab_dep fl_KL ((4 * (x % 120) + 1) % 500))), (ab_save (ab_save S (FS N)) (FS (fl_cN N (ab_dep fl_KL ((4 * (x % 120) + 3 + 500) % 500))))), Pn, ([46, 59, 43, 51] : List Int)).1).2, ab_save (FS (fl_cN (fl_cN N (ab_dep fl_KL ((4 * (x % 120) + 3 + 500) % 500))) (ab_dep fl_KL ((4 * (x % 120) + 1) % 500))), (ab_save (ab_save S (FS N)) (FS (fl_cN N (ab_dep fl_KL ((4 * (x % 120) + 3 + 500) % 500))))), Pn, ([46, 59, 43, 51] : List Int)).2.1 (FS (fl_cN (fl_cN N (ab_dep fl_KL ((4 * (x % 120) + 3 + 500) % 500))) (ab_dep fl_KL ((4 * (x % 120) + 1) % 500))), (ab_save (ab_save S (FS N)) (FS (fl_cN N (ab_dep fl_KL ((4 * (x % 120) + 3 + 500) % 500))))), Pn, ([46, 59, 43, 51] : List Int)).1, (FS (fl_cN (fl_cN N (ab_dep fl_KL ((4 * (x % 120) + 3 + 500) % 500))) (ab_dep fl_KL ((4 * (x % 120) + 1) % 500))), (ab_save (ab_save S (FS N)) (FS (fl_cN N (ab_dep fl_KL ((4 * (x % 120) + 3 + 500) % 500))))), Pn, ([46, 59, 43, 51] : List Int)).2.2.1, []) : aW) = (FS (fl_cN (fl_cN (fl_cN N (ab_dep fl_KL ((4 * (x % 120) + 3 + 500) % 500))) (ab_dep fl_KL ((4 * (x % 120) + 1) % 500))) 0), ab_save (ab_save (ab_save S (FS N)) (FS (fl_cN N (ab_dep fl_KL ((4 * (x % 120) + 3 + 500) % 500))))) (FS (fl_cN (fl_cN N (ab_dep fl_KL ((4 * (x % 120) + 3 + 500) % 500))) (ab_dep fl_KL ((4 * (x % 120) + 1) % 500)))), Pn, ([] : List Int)) := congrArg (fun B => ((B, ab_save (ab_save (ab_save S (FS N)) (FS (fl_cN N (ab_dep fl_KL ((4 * (x % 120) + 3 + 500) % 500))))) (FS (fl_cN (fl_cN N (ab_dep fl_KL ((4 * (x % 120) + 3 + 500) % 500))) (ab_dep fl_KL ((4 * (x % 120) + 1) % 500)))), Pn, []) : aW)) (fl_exe (N := (fl_cN (fl_cN N (ab_dep fl_KL ((4 * (x % 120) + 3 + 500) % 500))) (ab_dep fl_KL ((4 * (x % 120) + 1) % 500))))).2
    have hI3 : ivE (FS (fl_cN (fl_cN (fl_cN N (ab_dep fl_KL ((4 * (x % 120) + 3 + 500) % 500))) (ab_dep fl_KL ((4 * (x % 120) + 1) % 500))) 0), ab_save (ab_save (ab_save S (FS N)) (FS (fl_cN N (ab_dep fl_KL ((4 * (x % 120) + 3 + 500) % 500))))) (FS (fl_cN (fl_cN N (ab_dep fl_KL ((4 * (x % 120) + 3 + 500) % 500))) (ab_dep fl_KL ((4 * (x % 120) + 1) % 500)))), Pn, ([] : List Int)) := by
      have q := ivE_execute hIa3 (acts := [-1, 3]) fl_ptx.2
      rw [e3] at q
      exact q
    refine V_iconst hc dL_isFull_100 ?_
    refine V_iload_n hc dL_isFull_101 1 rfl ?_
    refine V_bipush hc dL_isFull_102 (by decide) ?_
    refine V_irem (X := True) hc dL_isFull_104 ⟨by omega, by omega, trivial⟩ (fun _ => ?_)
    refine V_imul hc dL_isFull_105 ?_
    refine V_iconst hc dL_isFull_106 ?_
    refine V_iadd hc dL_isFull_107 ?_
    refine V_istore_n hc dL_isFull_108 [(3, .int (iI ((4 * (x % 120)) + 3))), (0, .ref hB), (1, .int (iI x)), (2, .int (iI 1))] (Nat.le_of_ble_eq_true rfl) rfl ?_
    refine V_aload_n hc dL_isFull_109 1 rfl ?_
    refine V_ll (As := [.ref hB]) hc hG (lm_seen hl0 hW hI) rfl gL_isFull_L_seen rfl ⟨rfl, rfl⟩ ok_L_seen ⟨Nat.le_of_ble_eq_true rfl, Nat.le_of_ble_eq_true rfl⟩ (Nat.le_of_ble_eq_true rfl) dL_isFull_110 ⟨Nat.le_of_ble_eq_true rfl, Nat.le_of_ble_eq_true rfl⟩ (fun w1 hW1 => ?_)
    refine V_lstore hc dL_isFull_113 [(4, .long (SN (FS N))), (3, .int (iI ((4 * (x % 120)) + 3))), (0, .ref hB), (1, .int (iI x)), (2, .int (iI 1))] (Nat.le_of_ble_eq_true rfl) rfl ?_
    refine V_iload_n hc dL_isFull_115 4 rfl ?_
    refine V_if_eq (tgt := 209) (X := False) (Y := True) hc dL_isFull_116 (by decide) ⟨by decide, fun h => absurd h (by decide), fun _ => trivial⟩ (fun h => h.elim) (fun _ => ?_)
    refine V_aload_n hc dL_isFull_119 2 rfl ?_
    refine V_iconst hc dL_isFull_120 ?_
    refine V_iconst hc dL_isFull_121 ?_
    refine V_fd (As := [.int (iI 0), .int (iI 0)]) hc (fc_tree hl0 hW1 hI (by decide) (by decide)) (fun j h9 => h9.2.1 ⟨by decide, by decide⟩) 120 (FS N, S, Pn, []) (fun r σ2 h9 => ⟨(h9.2.1.trans (if_pos rfl)).trans (tr_0.trans (show ((fl_KL.length : Nat) : Int) = 120 from by rw [fl_len.1] <;> rfl)), h9.2.2⟩) rfl gL_isFull_X4_tree rfl ⟨rfl, rfl⟩ ok_X4_tree ⟨Nat.le_of_ble_eq_true rfl, Nat.le_of_ble_eq_true rfl⟩ (Nat.le_of_ble_eq_true rfl) dL_isFull_122 ⟨Nat.le_of_ble_eq_true rfl, Nat.le_of_ble_eq_true rfl⟩ (fun w2 hW2 => ?_)
    refine V_bipush hc dL_isFull_125 (by decide) ?_
    refine V_icmp_ne (tgt := 209) (X := False) (Y := True) hc dL_isFull_127 (by decide) ⟨by decide, by decide, fun h => absurd h (by decide), fun _ => trivial⟩ (fun h => h.elim) (fun _ => ?_)
    refine V_aload_n hc dL_isFull_130 2 rfl ?_
    refine V_iconst hc dL_isFull_131 ?_
    refine V_iconst hc dL_isFull_132 ?_
    refine V_fd (As := [.int (iI 0), .int (iI 3)]) hc (fc_tree hl0 hW2 hI (by decide) (by decide)) (fun j h9 => h9.2.1 ⟨by decide, by decide⟩) 7 (FS N, S, Pn, []) (fun r σ2 h9 => ⟨(h9.2.1.trans (if_pos rfl)).trans (tr_3.trans fl_dm), h9.2.2⟩) rfl gL_isFull_X4_tree rfl ⟨rfl, rfl⟩ ok_X4_tree ⟨Nat.le_of_ble_eq_true rfl, Nat.le_of_ble_eq_true rfl⟩ (Nat.le_of_ble_eq_true rfl) dL_isFull_133 ⟨Nat.le_of_ble_eq_true rfl, Nat.le_of_ble_eq_true rfl⟩ (fun w3 hW3 => ?_)
    refine V_bipush hc dL_isFull_136 (by decide) ?_
    refine V_icmp_ne (tgt := 209) (X := False) (Y := True) hc dL_isFull_138 (by decide) ⟨by decide, by decide, fun h => absurd h (by decide), fun _ => trivial⟩ (fun h => h.elim) (fun _ => ?_)
    refine V_aload_n hc dL_isFull_141 2 rfl ?_
    refine V_iconst hc dL_isFull_142 ?_
    refine V_fd (As := [.int (iI 0)]) hc (fc_rebuild hl0 hW3 hI (by decide)) (fun j h9 => h9.2.1 ⟨by decide, by decide⟩) 0 (FS N, S, Pn, []) (fun r σ2 h9 => ⟨h9.2.1.trans (reb_0 rfl), h9.2.2⟩) rfl gL_isFull_X4_rebuild rfl ⟨rfl, rfl⟩ ok_X4_rebuild ⟨Nat.le_of_ble_eq_true rfl, Nat.le_of_ble_eq_true rfl⟩ (Nat.le_of_ble_eq_true rfl) dL_isFull_143 ⟨Nat.le_of_ble_eq_true rfl, Nat.le_of_ble_eq_true rfl⟩ (fun w4 hW4 => ?_)
    refine V_if_ne (tgt := 209) (X := False) (Y := True) hc dL_isFull_146 (by decide) ⟨by decide, fun h => absurd h (by decide), fun _ => trivial⟩ (fun h => h.elim) (fun _ => ?_)
    refine V_aload_n hc dL_isFull_149 2 rfl ?_
    refine V_iconst hc dL_isFull_150 ?_
    refine V_fd (As := [.int (iI 4)]) hc (fc_count hl0 hW4 hI (by decide)) (fun j h9 => h9.2.1 ⟨by decide, by decide⟩) 0 (FS N, S, Pn, []) (fun r σ2 h9 => ⟨h9.2.1.trans (cn_4.trans (g4)), h9.2.2⟩) rfl gL_isFull_X4_count rfl ⟨rfl, rfl⟩ ok_X4_count ⟨Nat.le_of_ble_eq_true rfl, Nat.le_of_ble_eq_true rfl⟩ (Nat.le_of_ble_eq_true rfl) dL_isFull_151 ⟨Nat.le_of_ble_eq_true rfl, Nat.le_of_ble_eq_true rfl⟩ (fun w5 hW5 => ?_)
    refine V_if_ne (tgt := 209) (X := False) (Y := True) hc dL_isFull_154 (by decide) ⟨by decide, fun h => absurd h (by decide), fun _ => trivial⟩ (fun h => h.elim) (fun _ => ?_)
    refine V_aload_n hc dL_isFull_157 2 rfl ?_
    refine V_iconst hc dL_isFull_158 ?_
    refine V_iload_n hc dL_isFull_159 1 rfl ?_
    refine V_iconst hc dL_isFull_160 ?_
    refine V_lc (As := [.ref hB, .int (iI 0), .int (iI ((4 * (x % 120)) + 3)), .int (iI 0)]) (hh := [(0, 158, 159, 51), (0, 158, 164, 53), (0, 158, 169, 55)]) hc hG (lc_call_0 hl0 hW5 hI (by omega) (by decide)) (-12) (FS N, S, Pn, []) (dr_addF ⟨by omega, by omega⟩ hot.2) rfl gL_isFull_L_call rfl ⟨rfl, rfl⟩ ok_L_call ⟨Nat.le_of_ble_eq_true rfl, Nat.le_of_ble_eq_true rfl⟩ (Nat.le_of_ble_eq_true rfl) dL_isFull_161 ⟨Nat.le_of_ble_eq_true rfl, Nat.le_of_ble_eq_true rfl⟩ (fun w6 hW6 => ?_)
    refine V_bipush hc dL_isFull_164 (by decide) ?_
    refine V_icmp_ne (tgt := 209) (X := False) (Y := True) hc dL_isFull_166 (by decide) ⟨by decide, by decide, fun h => absurd h (by decide), fun _ => trivial⟩ (fun h => h.elim) (fun _ => ?_)
    refine V_aload_n hc dL_isFull_169 2 rfl ?_
    refine V_ll (As := [.ref hB]) hc hG (lm_seen hl0 hW6 hI) rfl gL_isFull_L_seen rfl ⟨rfl, rfl⟩ ok_L_seen ⟨Nat.le_of_ble_eq_true rfl, Nat.le_of_ble_eq_true rfl⟩ (Nat.le_of_ble_eq_true rfl) dL_isFull_170 ⟨Nat.le_of_ble_eq_true rfl, Nat.le_of_ble_eq_true rfl⟩ (fun w7 hW7 => ?_)
    refine V_lload hc dL_isFull_173 0 rfl ?_
    refine V_lcmpT hc dL_isFull_175 (rfl) ?_
    refine V_if_ne (tgt := 209) (X := False) (Y := True) hc dL_isFull_176 (by decide) ⟨by decide, fun h => absurd h (by decide), fun _ => trivial⟩ (fun h => h.elim) (fun _ => ?_)
    refine V_aload_n hc dL_isFull_179 2 rfl ?_
    refine V_iconst hc dL_isFull_180 ?_
    refine V_iload_n hc dL_isFull_181 1 rfl ?_
    refine V_iconst hc dL_isFull_182 ?_
    refine V_lc (As := [.ref hB, .int (iI 1), .int (iI ((4 * (x % 120)) + 3)), .int (iI 0)]) (hh := [(0, 158, 159, 51), (0, 158, 164, 53), (0, 158, 169, 55)]) hc hG (lc_call_1 hl0 hW7 hI (by omega) (by decide)) 0 (FS (fl_cN N (ab_dep fl_KL ((4 * (x % 120) + 3 + 500) % 500))), ab_save S (FS N), Pn, ([] : List Int)) (dkc (dk_rem0 ⟨by omega, by omega⟩ (fun q => hot.1 q.1)) rfl e1) rfl gL_isFull_L_call rfl ⟨rfl, rfl⟩ ok_L_call ⟨Nat.le_of_ble_eq_true rfl, Nat.le_of_ble_eq_true rfl⟩ (Nat.le_of_ble_eq_true rfl) dL_isFull_183 ⟨Nat.le_of_ble_eq_true rfl, Nat.le_of_ble_eq_true rfl⟩ (fun w8 hW8 => ?_)
    refine V_if_ne (tgt := 209) (X := False) (Y := True) hc dL_isFull_186 (by decide) ⟨by decide, fun h => absurd h (by decide), fun _ => trivial⟩ (fun h => h.elim) (fun _ => ?_)
    refine V_aload_n hc dL_isFull_189 2 rfl ?_
    refine V_iconst hc dL_isFull_190 ?_
    refine V_iload_n hc dL_isFull_191 3 rfl ?_
    refine V_bipush hc dL_isFull_192 (by decide) ?_
    refine V_irem (X := True) hc dL_isFull_194 ⟨by omega, by omega, trivial⟩ (fun _ => ?_)
    refine V_ls (As := [.int (iI (x % 120))]) (W1 := fun _ : Unit => []) (wc := []) (wr := w8) hc hG (List.Perm.refl _) (lm_keyOf (x := x % 120)) rfl gL_isFull_L_keyOf rfl ⟨rfl, rfl⟩ ok_L_keyOf ⟨Nat.le_of_ble_eq_true rfl, Nat.le_of_ble_eq_true rfl⟩ (Nat.le_of_ble_eq_true rfl) dL_isFull_195 ⟨Nat.le_of_ble_eq_true rfl, Nat.le_of_ble_eq_true rfl⟩ (fun r9 _ h9 => ?_)
    subst h9
    refine V_weq (ws1 := w8) rfl ?_
    refine V_iconst hc dL_isFull_198 ?_
    refine V_lc (As := [.ref hB, .int (iI 0), .int (iI (4 * (x % 120) + 1)), .int (iI 0)]) (hh := [(0, 158, 159, 51), (0, 158, 164, 53), (0, 158, 169, 55)]) hc hG (lc_call_0 hl0 hW8 hI1 (by omega) (by decide)) 0 (FS (fl_cN (fl_cN N (ab_dep fl_KL ((4 * (x % 120) + 3 + 500) % 500))) (ab_dep fl_KL ((4 * (x % 120) + 1) % 500))), (ab_save (ab_save S (FS N)) (FS (fl_cN N (ab_dep fl_KL ((4 * (x % 120) + 3 + 500) % 500))))), Pn, ([] : List Int)) (dkc (dk_add0 ⟨by omega, by omega⟩ hrm ⟨hky, rfl⟩) rfl e2) rfl gL_isFull_L_call rfl ⟨rfl, rfl⟩ ok_L_call ⟨Nat.le_of_ble_eq_true rfl, Nat.le_of_ble_eq_true rfl⟩ (Nat.le_of_ble_eq_true rfl) dL_isFull_199 ⟨Nat.le_of_ble_eq_true rfl, Nat.le_of_ble_eq_true rfl⟩ (fun w9 hW9 => ?_)
    refine V_if_ne (tgt := 209) (X := False) (Y := True) hc dL_isFull_202 (by decide) ⟨by decide, fun h => absurd h (by decide), fun _ => trivial⟩ (fun h => h.elim) (fun _ => ?_)
    refine V_iconst hc dL_isFull_205 ?_
    refine V_goto (tgt := 210) hc dL_isFull_206 (by decide) ?_
    refine V_istore_n hc dL_isFull_210 [(2, .int (iI 1)), (4, .long (SN (FS N))), (3, .int (iI ((4 * (x % 120)) + 3))), (0, .ref hB), (1, .int (iI x))] (Nat.le_of_ble_eq_true rfl) rfl ?_
    refine V_iload_n hc dL_isFull_211 0 rfl ?_
    refine V_if_eq (tgt := 307) (X := False) (Y := True) hc dL_isFull_212 (by decide) ⟨by decide, fun h => absurd h (by decide), fun _ => trivial⟩ (fun h => h.elim) (fun _ => ?_)
    refine V_aload_n hc dL_isFull_215 3 rfl ?_
    refine V_iconst hc dL_isFull_216 ?_
    refine V_bipush hc dL_isFull_217 (by decide) ?_
    refine V_iconst hc dL_isFull_219 ?_
    refine V_lc (As := [.ref hB, .int (iI 5), .int (iI 46), .int (iI 0)]) (hh := [(0, 158, 159, 51), (0, 158, 164, 53), (0, 158, 169, 55)]) hc hG (lc_call_5 hl0 hW9 hI2 (by decide) (by decide)) 1 (FS (fl_cN (fl_cN N (ab_dep fl_KL ((4 * (x % 120) + 3 + 500) % 500))) (ab_dep fl_KL ((4 * (x % 120) + 1) % 500))), (ab_save (ab_save S (FS N)) (FS (fl_cN N (ab_dep fl_KL ((4 * (x % 120) + 3 + 500) % 500))))), Pn, ([46] : List Int)) (dkc (dk_append (X := ([] : List Int)) (by decide) rfl (by decide)) rfl rfl) rfl gL_isFull_L_call rfl ⟨rfl, rfl⟩ ok_L_call ⟨Nat.le_of_ble_eq_true rfl, Nat.le_of_ble_eq_true rfl⟩ (Nat.le_of_ble_eq_true rfl) dL_isFull_220 ⟨Nat.le_of_ble_eq_true rfl, Nat.le_of_ble_eq_true rfl⟩ (fun w10 hW10 => ?_)
    refine V_iconst hc dL_isFull_223 ?_
    refine V_icmp_ne (tgt := 307) (X := False) (Y := True) hc dL_isFull_224 (by decide) ⟨by decide, by decide, fun h => absurd h (by decide), fun _ => trivial⟩ (fun h => h.elim) (fun _ => ?_)
    refine V_aload_n hc dL_isFull_227 3 rfl ?_
    refine V_iconst hc dL_isFull_228 ?_
    refine V_bipush hc dL_isFull_229 (by decide) ?_
    refine V_iconst hc dL_isFull_231 ?_
    refine V_lc (As := [.ref hB, .int (iI 5), .int (iI 59), .int (iI 0)]) (hh := [(0, 158, 159, 51), (0, 158, 164, 53), (0, 158, 169, 55)]) hc hG (lc_call_5 hl0 hW10 hIa0 (by decide) (by decide)) 2 (FS (fl_cN (fl_cN N (ab_dep fl_KL ((4 * (x % 120) + 3 + 500) % 500))) (ab_dep fl_KL ((4 * (x % 120) + 1) % 500))), (ab_save (ab_save S (FS N)) (FS (fl_cN N (ab_dep fl_KL ((4 * (x % 120) + 3 + 500) % 500))))), Pn, ([46, 59] : List Int)) (dkc (dk_append (X := [46]) (by decide) rfl (by decide)) rfl rfl) rfl gL_isFull_L_call rfl ⟨rfl, rfl⟩ ok_L_call ⟨Nat.le_of_ble_eq_true rfl, Nat.le_of_ble_eq_true rfl⟩ (Nat.le_of_ble_eq_true rfl) dL_isFull_232 ⟨Nat.le_of_ble_eq_true rfl, Nat.le_of_ble_eq_true rfl⟩ (fun w11 hW11 => ?_)
    refine V_iconst hc dL_isFull_235 ?_
    refine V_icmp_ne (tgt := 307) (X := False) (Y := True) hc dL_isFull_236 (by decide) ⟨by decide, by decide, fun h => absurd h (by decide), fun _ => trivial⟩ (fun h => h.elim) (fun _ => ?_)
    refine V_aload_n hc dL_isFull_239 3 rfl ?_
    refine V_iconst hc dL_isFull_240 ?_
    refine V_bipush hc dL_isFull_241 (by decide) ?_
    refine V_iconst hc dL_isFull_243 ?_
    refine V_lc (As := [.ref hB, .int (iI 5), .int (iI 43), .int (iI 0)]) (hh := [(0, 158, 159, 51), (0, 158, 164, 53), (0, 158, 169, 55)]) hc hG (lc_call_5 hl0 hW11 hIa1 (by decide) (by decide)) 3 (FS (fl_cN (fl_cN N (ab_dep fl_KL ((4 * (x % 120) + 3 + 500) % 500))) (ab_dep fl_KL ((4 * (x % 120) + 1) % 500))), (ab_save (ab_save S (FS N)) (FS (fl_cN N (ab_dep fl_KL ((4 * (x % 120) + 3 + 500) % 500))))), Pn, ([46, 59, 43] : List Int)) (dkc (dk_append (X := [46, 59]) (by decide) rfl (by decide)) rfl rfl) rfl gL_isFull_L_call rfl ⟨rfl, rfl⟩ ok_L_call ⟨Nat.le_of_ble_eq_true rfl, Nat.le_of_ble_eq_true rfl⟩ (Nat.le_of_ble_eq_true rfl) dL_isFull_244 ⟨Nat.le_of_ble_eq_true rfl, Nat.le_of_ble_eq_true rfl⟩ (fun w12 hW12 => ?_)
    refine V_iconst hc dL_isFull_247 ?_
    refine V_icmp_ne (tgt := 307) (X := False) (Y := True) hc dL_isFull_248 (by decide) ⟨by decide, by decide, fun h => absurd h (by decide), fun _ => trivial⟩ (fun h => h.elim) (fun _ => ?_)
    refine V_aload_n hc dL_isFull_251 3 rfl ?_
    refine V_iconst hc dL_isFull_252 ?_
    refine V_bipush hc dL_isFull_253 (by decide) ?_
    refine V_iconst hc dL_isFull_255 ?_
    refine V_lc (As := [.ref hB, .int (iI 5), .int (iI 51), .int (iI 0)]) (hh := [(0, 158, 159, 51), (0, 158, 164, 53), (0, 158, 169, 55)]) hc hG (lc_call_5 hl0 hW12 hIa2 (by decide) (by decide)) 4 (FS (fl_cN (fl_cN N (ab_dep fl_KL ((4 * (x % 120) + 3 + 500) % 500))) (ab_dep fl_KL ((4 * (x % 120) + 1) % 500))), (ab_save (ab_save S (FS N)) (FS (fl_cN N (ab_dep fl_KL ((4 * (x % 120) + 3 + 500) % 500))))), Pn, ([46, 59, 43, 51] : List Int)) (dkc (dk_append (X := [46, 59, 43]) (by decide) rfl (by decide)) rfl rfl) rfl gL_isFull_L_call rfl ⟨rfl, rfl⟩ ok_L_call ⟨Nat.le_of_ble_eq_true rfl, Nat.le_of_ble_eq_true rfl⟩ (Nat.le_of_ble_eq_true rfl) dL_isFull_256 ⟨Nat.le_of_ble_eq_true rfl, Nat.le_of_ble_eq_true rfl⟩ (fun w13 hW13 => ?_)
    refine V_iconst hc dL_isFull_259 ?_
    refine V_icmp_ne (tgt := 307) (X := False) (Y := True) hc dL_isFull_260 (by decide) ⟨by decide, by decide, fun h => absurd h (by decide), fun _ => trivial⟩ (fun h => h.elim) (fun _ => ?_)
    refine V_aload_n hc dL_isFull_263 3 rfl ?_
    refine V_fd (As := []) hc (fc_firstError hW13 hIa3 ) (fun j h9 => h9) 4 (FS (fl_cN (fl_cN N (ab_dep fl_KL ((4 * (x % 120) + 3 + 500) % 500))) (ab_dep fl_KL ((4 * (x % 120) + 1) % 500))), (ab_save (ab_save S (FS N)) (FS (fl_cN N (ab_dep fl_KL ((4 * (x % 120) + 3 + 500) % 500))))), Pn, ([46, 59, 43, 51] : List Int)) (fun r σ2 h9 => ⟨h9.1.trans (by show (((ab_ptx [46, 59, 43, 51]).1 : Nat) : Int) = 4; rw [fl_ptx.1] <;> rfl), h9.2⟩) rfl gL_isFull_X4_firstError rfl ⟨rfl, rfl⟩ ok_X4_firstError ⟨Nat.le_of_ble_eq_true rfl, Nat.le_of_ble_eq_true rfl⟩ (Nat.le_of_ble_eq_true rfl) dL_isFull_264 ⟨Nat.le_of_ble_eq_true rfl, Nat.le_of_ble_eq_true rfl⟩ (fun w14 hW14 => ?_)
    refine V_iconst hc dL_isFull_267 ?_
    refine V_icmp_ne (tgt := 307) (X := False) (Y := True) hc dL_isFull_268 (by decide) ⟨by decide, by decide, fun h => absurd h (by decide), fun _ => trivial⟩ (fun h => h.elim) (fun _ => ?_)
    refine V_aload_n hc dL_isFull_271 3 rfl ?_
    refine V_bipush hc dL_isFull_272 (by decide) ?_
    refine V_iconst hc dL_isFull_274 ?_
    refine V_iconst hc dL_isFull_275 ?_
    refine V_lc (As := [.ref hB, .int (iI 6), .int (iI 0), .int (iI 0)]) (hh := [(0, 158, 159, 51), (0, 158, 164, 53), (0, 158, 169, 55)]) hc hG (lc_call_6 hl0 hW14 hIa3 (by decide) (by decide)) 1 (FS (fl_cN (fl_cN (fl_cN N (ab_dep fl_KL ((4 * (x % 120) + 3 + 500) % 500))) (ab_dep fl_KL ((4 * (x % 120) + 1) % 500))) 0), ab_save (ab_save (ab_save S (FS N)) (FS (fl_cN N (ab_dep fl_KL ((4 * (x % 120) + 3 + 500) % 500))))) (FS (fl_cN (fl_cN N (ab_dep fl_KL ((4 * (x % 120) + 3 + 500) % 500))) (ab_dep fl_KL ((4 * (x % 120) + 1) % 500)))), Pn, ([] : List Int)) (dkc (dk_execute (acts := [-1, 3]) fl_ptx.2) (fl_exe (N := (fl_cN (fl_cN N (ab_dep fl_KL ((4 * (x % 120) + 3 + 500) % 500))) (ab_dep fl_KL ((4 * (x % 120) + 1) % 500))))).1 e3) rfl gL_isFull_L_call rfl ⟨rfl, rfl⟩ ok_L_call ⟨Nat.le_of_ble_eq_true rfl, Nat.le_of_ble_eq_true rfl⟩ (Nat.le_of_ble_eq_true rfl) dL_isFull_276 ⟨Nat.le_of_ble_eq_true rfl, Nat.le_of_ble_eq_true rfl⟩ (fun w15 hW15 => ?_)
    refine V_iconst hc dL_isFull_279 ?_
    refine V_icmp_ne (tgt := 307) (X := False) (Y := True) hc dL_isFull_280 (by decide) ⟨by decide, by decide, fun h => absurd h (by decide), fun _ => trivial⟩ (fun h => h.elim) (fun _ => ?_)
    refine V_aload_n hc dL_isFull_283 3 rfl ?_
    refine V_bipush hc dL_isFull_284 (by decide) ?_
    refine V_fd (As := [.int (iI 8)]) hc (fc_count hl0 hW15 hI3 (by decide)) (fun j h9 => h9.2.1 ⟨by decide, by decide⟩) 0 (FS (fl_cN (fl_cN (fl_cN N (ab_dep fl_KL ((4 * (x % 120) + 3 + 500) % 500))) (ab_dep fl_KL ((4 * (x % 120) + 1) % 500))) 0), ab_save (ab_save (ab_save S (FS N)) (FS (fl_cN N (ab_dep fl_KL ((4 * (x % 120) + 3 + 500) % 500))))) (FS (fl_cN (fl_cN N (ab_dep fl_KL ((4 * (x % 120) + 3 + 500) % 500))) (ab_dep fl_KL ((4 * (x % 120) + 1) % 500)))), Pn, ([] : List Int)) (fun r σ2 h9 => ⟨h9.2.1.trans (cn_8.trans rfl), h9.2.2⟩) rfl gL_isFull_X4_count rfl ⟨rfl, rfl⟩ ok_X4_count ⟨Nat.le_of_ble_eq_true rfl, Nat.le_of_ble_eq_true rfl⟩ (Nat.le_of_ble_eq_true rfl) dL_isFull_286 ⟨Nat.le_of_ble_eq_true rfl, Nat.le_of_ble_eq_true rfl⟩ (fun w16 hW16 => ?_)
    refine V_if_ne (tgt := 307) (X := False) (Y := True) hc dL_isFull_289 (by decide) ⟨by decide, fun h => absurd h (by decide), fun _ => trivial⟩ (fun h => h.elim) (fun _ => ?_)
    refine V_aload_n hc dL_isFull_292 3 rfl ?_
    refine V_iconst hc dL_isFull_293 ?_
    refine V_iconst hc dL_isFull_294 ?_
    refine V_fd (As := [.int (iI 0), .int (iI 0)]) hc (fc_tree hl0 hW16 hI3 (by decide) (by decide)) (fun j h9 => h9.2.1 ⟨by decide, by decide⟩) 120 (FS (fl_cN (fl_cN (fl_cN N (ab_dep fl_KL ((4 * (x % 120) + 3 + 500) % 500))) (ab_dep fl_KL ((4 * (x % 120) + 1) % 500))) 0), ab_save (ab_save (ab_save S (FS N)) (FS (fl_cN N (ab_dep fl_KL ((4 * (x % 120) + 3 + 500) % 500))))) (FS (fl_cN (fl_cN N (ab_dep fl_KL ((4 * (x % 120) + 3 + 500) % 500))) (ab_dep fl_KL ((4 * (x % 120) + 1) % 500)))), Pn, ([] : List Int)) (fun r σ2 h9 => ⟨(h9.2.1.trans (if_pos rfl)).trans (tr_0.trans (show ((fl_KL.length : Nat) : Int) = 120 from by rw [fl_len.1] <;> rfl)), h9.2.2⟩) rfl gL_isFull_X4_tree rfl ⟨rfl, rfl⟩ ok_X4_tree ⟨Nat.le_of_ble_eq_true rfl, Nat.le_of_ble_eq_true rfl⟩ (Nat.le_of_ble_eq_true rfl) dL_isFull_295 ⟨Nat.le_of_ble_eq_true rfl, Nat.le_of_ble_eq_true rfl⟩ (fun w17 hW17 => ?_)
    refine V_bipush hc dL_isFull_298 (by decide) ?_
    refine V_icmp_ne (tgt := 307) (X := False) (Y := True) hc dL_isFull_300 (by decide) ⟨by decide, by decide, fun h => absurd h (by decide), fun _ => trivial⟩ (fun h => h.elim) (fun _ => ?_)
    refine V_iconst hc dL_isFull_303 ?_
    refine V_goto (tgt := 308) hc dL_isFull_304 (by decide) ?_
    refine V_istore_n hc dL_isFull_308 [(2, .int (iI 1)), (4, .long (SN (FS N))), (3, .int (iI ((4 * (x % 120)) + 3))), (0, .ref hB), (1, .int (iI x))] (Nat.le_of_ble_eq_true rfl) rfl ?_
    refine V_iload_n hc dL_isFull_309 0 rfl ?_
    refine V_if_eq (tgt := 324) (X := False) (Y := True) hc dL_isFull_310 (by decide) ⟨by decide, fun h => absurd h (by decide), fun _ => trivial⟩ (fun h => h.elim) (fun _ => ?_)
    refine V_aload_n hc dL_isFull_313 3 rfl ?_
    refine V_ls (W1 := idW) (As := [.ref hB]) (wc := w17) (wr := []) hc hG (by rw [List.append_nil]) (lm_isQueued hl0 hW17 hI3 g4 g5 g6) rfl gL_isFull_L_isQueued rfl ⟨rfl, rfl⟩ ok_L_isQueued ⟨Nat.le_of_ble_eq_true rfl, Nat.le_of_ble_eq_true rfl⟩ (Nat.le_of_ble_eq_true rfl) dL_isFull_314 ⟨Nat.le_of_ble_eq_true rfl, Nat.le_of_ble_eq_true rfl⟩ (fun r9 u9 h9 => ?_)
    subst h9
    refine V_weq (List.append_nil _) ?_
    refine V_if_eq (tgt := 324) (X := False) (Y := True) hc dL_isFull_317 (by decide) ⟨by decide, fun h => absurd h (by decide), fun _ => trivial⟩ (fun h => h.elim) (fun _ => ?_)
    refine V_iconst hc dL_isFull_320 ?_
    refine V_goto (tgt := 325) hc dL_isFull_321 (by decide) ?_
    refine V_widen (k1 := 733) (n1 := 4398) (Nat.le_of_ble_eq_true rfl) (Nat.le_of_ble_eq_true rfl) ?_
    exact V_zret hc hr (idW u9) ⟨Or.inr rfl, rfl⟩ rfl dL_isFull_325
  have LI : ∀ (n c9 s9 k9 p9 : Nat) (N : Nat → Int) (S : List aS) (w : va_W), c9 + n = 126 → fl_C.getD c9 (0, 0, 0) = (s9, k9, p9) → CW t hB w (FP p9 N, S, Pn, []) → ivE (FP p9 N, S, Pn, []) → N 4 = 0 → N 5 = 0 → N 6 = 0 → V p l e rm_L_isFull s m args below meth c D A 6 (6 + 2 * c9) (36 + 12 * c9) (MQ below (QI D A idW (fun r (_ : va_W) => r = 1)) args s 733 4398 A) 50 [(0, .ref hB), (1, .int (iI x)), (2, .int (iI 1)), (3, .int (iI (s9 : Int))), (4, .int (iI (k9 : Int)))] [] w := by
    intro n
    induction n with
    | zero =>
      intro c9 s9 k9 p9 N S w hcn hcf hW hI g4 g5 g6
      have hok := fl_C_ok c9 (by omega)
      rw [hcf] at hok
      obtain ⟨⟨b1, b2, b3, b4⟩, ok1, ok2⟩ := hok
      dsimp only at b1 b2 b3 b4 ok1 ok2
      have hk : ¬ k9 < 120 := fun q => by have := (ok1 q).2.2.1; omega
      obtain ⟨hs1, hp1⟩ := (ok2 hk).2 (by omega)
      subst hs1
      subst hp1
      refine V_iload hc dL_isFull_50 4 rfl ?_
      refine V_bipush hc dL_isFull_52 (by decide) ?_
      refine V_icmp_ge (tgt := 93) (X := True) (Y := False) hc dL_isFull_54 (by decide) ⟨by omega, by decide, fun _ => trivial, fun h => h (by omega)⟩ (fun _ => ?_) (fun h => h.elim)
      refine V_iload_n hc dL_isFull_93 3 rfl ?_
      refine V_iconst hc dL_isFull_94 ?_
      refine V_idiv (X := True) hc dL_isFull_95 ⟨by omega, by omega, trivial⟩ (fun _ => ?_)
      refine V_istore_n hc dL_isFull_96 [(3, .int (iI (((1 : Nat) : Int) / 2))), (0, .ref hB), (1, .int (iI x)), (2, .int (iI 1)), (4, .int (iI (k9 : Int)))] (Nat.le_of_ble_eq_true rfl) rfl ?_
      refine V_goto (tgt := 41) hc dL_isFull_97 (by decide) ?_
      refine V_iload_n hc dL_isFull_41 0 rfl ?_
      refine V_if_le (tgt := 100) (X := True) (Y := False) hc dL_isFull_42 (by decide) ⟨by omega, fun _ => trivial, fun h => h (by omega)⟩ (fun _ => ?_) (fun h => h.elim)
      refine V_lv [1, 2, 3] [(0, .ref hB), (1, .int (iI x)), (2, .int (iI 1))] rfl ?_
      refine V_widen (k1 := 260) (n1 := 1560) (by omega) (by omega) ?_
      rw [FP_120] at hW hI
      exact F100 N S w hW hI g4 g5 g6
    | succ n ih =>
      intro c9 s9 k9 p9 N S w hcn hcf hW hI g4 g5 g6
      have hok := fl_C_ok c9 (by omega)
      rw [hcf] at hok
      obtain ⟨⟨b1, b2, b3, b4⟩, ok1, ok2⟩ := hok
      dsimp only at b1 b2 b3 b4 ok1 ok2
      by_cases hk : k9 < 120
      · obtain ⟨hp9, hkl, -, hnx⟩ := ok1 hk
        have e1 : sB (FP p9 N, S, Pn, []) (ab_act (FP p9 N, S, Pn, ([] : List Int)).1 (4 * (k9 : Int) + 1)).2 = (FP (p9 + 1) (fl_cN N (ab_dep (fl_KL.take p9) ((4 * (k9 : Int) + 1) % 500))), ab_save S (FP p9 N), Pn, []) := congrArg (fun B => ((B, ab_save S (FP p9 N), Pn, []) : aW)) (fl_add (N := N) hp9 hkl)
        have hrm : ab_room1 (as_T (FP p9 N, S, Pn, ([] : List Int)).1) (4 * (k9 : Int) + 1) := Or.inr (by show (fl_KL.take p9).length < 120; rw [List.length_take, fl_len.1]; omega)
        have hnp : ¬ ab_pres (as_T (FP p9 N, S, Pn, ([] : List Int)).1) (4 * (k9 : Int) + 1) := fun q => fl_add_new hp9 hkl q.1
        have hI1 : ivE (FP (p9 + 1) (fl_cN N (ab_dep (fl_KL.take p9) ((4 * (k9 : Int) + 1) % 500))), ab_save S (FP p9 N), Pn, []) := by
          have q := ivE_add hI (x := 4 * (k9 : Int) + 1) ⟨by omega, by omega⟩ hrm
          rw [e1] at q
          exact q
        refine V_iload hc dL_isFull_50 4 rfl ?_
        refine V_bipush hc dL_isFull_52 (by decide) ?_
        refine V_icmp_ge (tgt := 93) (X := False) (Y := True) hc dL_isFull_54 (by decide) ⟨by omega, by decide, fun h => absurd h (by omega), fun _ => trivial⟩ (fun h => h.elim) (fun _ => ?_)
        refine V_iload_n hc dL_isFull_57 2 rfl ?_
        refine V_if_eq (tgt := 93) (X := False) (Y := True) hc dL_isFull_58 (by decide) ⟨by decide, fun h => absurd h (by decide), fun _ => trivial⟩ (fun h => h.elim) (fun _ => ?_)
        refine V_aload_n hc dL_isFull_61 0 rfl ?_
        refine V_iconst hc dL_isFull_62 ?_
        refine V_iload hc dL_isFull_63 4 rfl ?_
        refine V_ls (As := [.int (iI (k9 : Int))]) (W1 := fun _ : Unit => []) (wc := []) (wr := w) hc hG (List.Perm.refl _) (lm_keyOf (x := (k9 : Int))) rfl gL_isFull_L_keyOf rfl ⟨rfl, rfl⟩ ok_L_keyOf ⟨Nat.le_of_ble_eq_true rfl, Nat.le_of_ble_eq_true rfl⟩ (Nat.le_of_ble_eq_true rfl) dL_isFull_65 ⟨Nat.le_trans (m := 733) (by omega) (Nat.le_of_ble_eq_true rfl), Nat.le_trans (m := 4398) (by omega) (Nat.le_of_ble_eq_true rfl)⟩ (fun r9 _ h9 => ?_)
        subst h9
        refine V_weq (ws1 := w) rfl ?_
        refine V_iconst hc dL_isFull_68 ?_
        refine V_lc (As := [.ref hB, .int (iI 0), .int (iI (4 * (k9 : Int) + 1)), .int (iI 0)]) (hh := [(0, 158, 159, 51), (0, 158, 164, 53), (0, 158, 169, 55)]) hc hG (lc_call_0 hl0 hW hI (by omega) (by decide)) 1 (FP (p9 + 1) (fl_cN N (ab_dep (fl_KL.take p9) ((4 * (k9 : Int) + 1) % 500))), ab_save S (FP p9 N), Pn, []) (dkc (dk_add1 ⟨by omega, by omega⟩ hrm hnp) rfl e1) rfl gL_isFull_L_call rfl ⟨rfl, rfl⟩ ok_L_call ⟨Nat.le_of_ble_eq_true rfl, Nat.le_of_ble_eq_true rfl⟩ (Nat.le_of_ble_eq_true rfl) dL_isFull_69 ⟨Nat.le_trans (m := 733) (by omega) (Nat.le_of_ble_eq_true rfl), Nat.le_trans (m := 4398) (by omega) (Nat.le_of_ble_eq_true rfl)⟩ (fun w1 hW1 => ?_)
        refine V_iconst hc dL_isFull_72 ?_
        refine V_icmp_ne (tgt := 80) (X := False) (Y := True) hc dL_isFull_73 (by decide) ⟨by decide, by decide, fun h => absurd h (by decide), fun _ => trivial⟩ (fun h => h.elim) (fun _ => ?_)
        refine V_iconst hc dL_isFull_76 ?_
        refine V_goto (tgt := 81) hc dL_isFull_77 (by decide) ?_
        refine V_istore_n hc dL_isFull_81 [(2, .int (iI 1)), (0, .ref hB), (1, .int (iI x)), (3, .int (iI (s9 : Int))), (4, .int (iI (k9 : Int)))] (Nat.le_of_ble_eq_true rfl) rfl ?_
        refine V_iload hc dL_isFull_82 4 rfl ?_
        refine V_iconst hc dL_isFull_84 ?_
        refine V_iload_n hc dL_isFull_85 3 rfl ?_
        refine V_imul hc dL_isFull_86 ?_
        refine V_iadd hc dL_isFull_87 ?_
        refine V_istore hc dL_isFull_88 [(4, .int (iI ((k9 : Int) + (2 * (s9 : Int))))), (2, .int (iI 1)), (0, .ref hB), (1, .int (iI x)), (3, .int (iI (s9 : Int)))] (Nat.le_of_ble_eq_true rfl) rfl ?_
        refine V_goto (tgt := 50) hc dL_isFull_90 (by decide) ?_
        have e9 : (k9 : Int) + 2 * (s9 : Int) = ((k9 + 2 * s9 : Nat) : Int) := by omega
        refine V_lv [2, 3, 1, 4, 0] [(0, .ref hB), (1, .int (iI x)), (2, .int (iI 1)), (3, .int (iI (s9 : Int))), (4, .int (iI ((k9 + 2 * s9 : Nat) : Int)))] (by rw [← e9]; rfl) ?_
        refine V_widen (k1 := 6 + 2 * (c9 + 1)) (n1 := 36 + 12 * (c9 + 1)) (by omega) (by omega) ?_
        exact ih (c9 + 1) _ _ _ _ _ _ (by omega) hnx hW1 hI1 g4 g5 g6
      · obtain ⟨hs2, hnx⟩ := (ok2 hk).1 (by omega)
        refine V_iload hc dL_isFull_50 4 rfl ?_
        refine V_bipush hc dL_isFull_52 (by decide) ?_
        refine V_icmp_ge (tgt := 93) (X := True) (Y := False) hc dL_isFull_54 (by decide) ⟨by omega, by decide, fun _ => trivial, fun h => h (by omega)⟩ (fun _ => ?_) (fun h => h.elim)
        refine V_iload_n hc dL_isFull_93 3 rfl ?_
        refine V_iconst hc dL_isFull_94 ?_
        refine V_idiv (X := True) hc dL_isFull_95 ⟨by omega, by omega, trivial⟩ (fun _ => ?_)
        refine V_istore_n hc dL_isFull_96 [(3, .int (iI ((s9 : Int) / 2))), (0, .ref hB), (1, .int (iI x)), (2, .int (iI 1)), (4, .int (iI (k9 : Int)))] (Nat.le_of_ble_eq_true rfl) rfl ?_
        refine V_goto (tgt := 41) hc dL_isFull_97 (by decide) ?_
        refine V_iload_n hc dL_isFull_41 0 rfl ?_
        refine V_if_le (tgt := 100) (X := False) (Y := True) hc dL_isFull_42 (by decide) ⟨by omega, fun h => absurd h (by omega), fun _ => trivial⟩ (fun h => h.elim) (fun _ => ?_)
        refine V_iload_n hc dL_isFull_45 0 rfl ?_
        refine V_iconst hc dL_isFull_46 ?_
        refine V_isub hc dL_isFull_47 ?_
        refine V_istore hc dL_isFull_48 [(4, .int (iI (((s9 : Int) / 2) - 1))), (3, .int (iI ((s9 : Int) / 2))), (0, .ref hB), (1, .int (iI x)), (2, .int (iI 1))] (Nat.le_of_ble_eq_true rfl) rfl ?_
        have e8 : (s9 : Int) / 2 = ((s9 / 2 : Nat) : Int) := by omega
        have e9 : (s9 : Int) / 2 - 1 = ((s9 / 2 - 1 : Nat) : Int) := by omega
        refine V_lv [2, 3, 4, 1, 0] [(0, .ref hB), (1, .int (iI x)), (2, .int (iI 1)), (3, .int (iI ((s9 / 2 : Nat) : Int))), (4, .int (iI ((s9 / 2 - 1 : Nat) : Int)))] (by rw [← e9, ← e8]; rfl) ?_
        refine V_widen (k1 := 6 + 2 * (c9 + 1)) (n1 := 36 + 12 * (c9 + 1)) (by omega) (by omega) ?_
        exact ih (c9 + 1) _ _ _ _ _ _ (by omega) hnx hW hI g4 g5 g6
  have v1 : ab_val 0 100 := ⟨fun _ => by decide, fun q => absurd q (by decide), fun q => absurd q (by decide)⟩
  have v2 : ab_val 1 40 := ⟨fun q => absurd q (by decide), fun _ => by decide, fun q => absurd q (by decide)⟩
  have v3 : ab_val 2 1 := ⟨fun q => absurd q (by decide), fun q => absurd q (by decide), fun _ => by decide⟩
  have hIA : ivE ((ab_set A0 0 100), ab_save [] A0, Pn, []) := ivE_set hI0 (s := 0) (x := 100) (by decide) v1
  have hIB : ivE ((ab_set (ab_set A0 0 100) 1 40), ab_save (ab_save [] A0) (ab_set A0 0 100), Pn, []) := ivE_set hIA (s := 1) (x := 40) (by decide) v2
  have hIC : ivE (FP 0 (fun _ => 0), (ab_save (ab_save (ab_save [] A0) (ab_set A0 0 100)) (ab_set (ab_set A0 0 100) 1 40)), Pn, []) := ivE_set hIB (s := 2) (x := 1) (by decide) v3
  refine V_lv [0, 1] [(0, .ref hB), (1, .int (iI x))] rfl ?_
  refine V_aload_n hc dL_isFull_0 0 rfl ?_
  refine V_iconst hc dL_isFull_1 ?_
  refine V_iconst hc dL_isFull_2 ?_
  refine V_bipush hc dL_isFull_3 (by decide) ?_
  refine V_lc (As := [.ref hB, .int (iI 4), .int (iI 0), .int (iI 100)]) (hh := [(0, 158, 159, 51), (0, 158, 164, 53), (0, 158, 169, 55)]) hc hG (lc_call_4 hl0 hCW hI0 (by decide) (by decide)) 50 ((ab_set A0 0 100), ab_save [] A0, Pn, []) (dkc (dk_set (by decide) v1) rfl rfl) rfl gL_isFull_L_call rfl ⟨rfl, rfl⟩ ok_L_call ⟨Nat.le_of_ble_eq_true rfl, Nat.le_of_ble_eq_true rfl⟩ (Nat.le_of_ble_eq_true rfl) dL_isFull_5 ⟨Nat.le_of_ble_eq_true rfl, Nat.le_of_ble_eq_true rfl⟩ (fun w1 hW1 => ?_)
  refine V_if_lt (tgt := 36) (X := False) (Y := True) hc dL_isFull_8 (by decide) ⟨by decide, fun h => absurd h (by decide), fun _ => trivial⟩ (fun h => h.elim) (fun _ => ?_)
  refine V_aload_n hc dL_isFull_11 0 rfl ?_
  refine V_iconst hc dL_isFull_12 ?_
  refine V_iconst hc dL_isFull_13 ?_
  refine V_bipush hc dL_isFull_14 (by decide) ?_
  refine V_lc (As := [.ref hB, .int (iI 4), .int (iI 1), .int (iI 40)]) (hh := [(0, 158, 159, 51), (0, 158, 164, 53), (0, 158, 169, 55)]) hc hG (lc_call_4 hl0 hW1 hIA (by decide) (by decide)) 10 ((ab_set (ab_set A0 0 100) 1 40), ab_save (ab_save [] A0) (ab_set A0 0 100), Pn, []) (dkc (dk_set (by decide) v2) rfl rfl) rfl gL_isFull_L_call rfl ⟨rfl, rfl⟩ ok_L_call ⟨Nat.le_of_ble_eq_true rfl, Nat.le_of_ble_eq_true rfl⟩ (Nat.le_of_ble_eq_true rfl) dL_isFull_16 ⟨Nat.le_of_ble_eq_true rfl, Nat.le_of_ble_eq_true rfl⟩ (fun w2 hW2 => ?_)
  refine V_if_lt (tgt := 36) (X := False) (Y := True) hc dL_isFull_19 (by decide) ⟨by decide, fun h => absurd h (by decide), fun _ => trivial⟩ (fun h => h.elim) (fun _ => ?_)
  refine V_aload_n hc dL_isFull_22 0 rfl ?_
  refine V_iconst hc dL_isFull_23 ?_
  refine V_iconst hc dL_isFull_24 ?_
  refine V_iconst hc dL_isFull_25 ?_
  refine V_lc (As := [.ref hB, .int (iI 4), .int (iI 2), .int (iI 1)]) (hh := [(0, 158, 159, 51), (0, 158, 164, 53), (0, 158, 169, 55)]) hc hG (lc_call_4 hl0 hW2 hIB (by decide) (by decide)) 2 (FP 0 (fun _ => 0), (ab_save (ab_save (ab_save [] A0) (ab_set A0 0 100)) (ab_set (ab_set A0 0 100) 1 40)), Pn, []) (dkc (dk_set (by decide) v3) rfl rfl) rfl gL_isFull_L_call rfl ⟨rfl, rfl⟩ ok_L_call ⟨Nat.le_of_ble_eq_true rfl, Nat.le_of_ble_eq_true rfl⟩ (Nat.le_of_ble_eq_true rfl) dL_isFull_26 ⟨Nat.le_of_ble_eq_true rfl, Nat.le_of_ble_eq_true rfl⟩ (fun w3 hW3 => ?_)
  refine V_if_lt (tgt := 36) (X := False) (Y := True) hc dL_isFull_29 (by decide) ⟨by decide, fun h => absurd h (by decide), fun _ => trivial⟩ (fun h => h.elim) (fun _ => ?_)
  refine V_iconst hc dL_isFull_32 ?_
  refine V_goto (tgt := 37) hc dL_isFull_33 (by decide) ?_
  refine V_istore_n hc dL_isFull_37 [(2, .int (iI 1)), (0, .ref hB), (1, .int (iI x))] (Nat.le_of_ble_eq_true rfl) rfl ?_
  refine V_bipush hc dL_isFull_38 (by decide) ?_
  refine V_istore_n hc dL_isFull_40 [(3, .int (iI 64)), (2, .int (iI 1)), (0, .ref hB), (1, .int (iI x))] (Nat.le_of_ble_eq_true rfl) rfl ?_
  refine V_iload_n hc dL_isFull_41 0 rfl ?_
  refine V_if_le (tgt := 100) (X := False) (Y := True) hc dL_isFull_42 (by decide) ⟨by decide, fun h => absurd h (by decide), fun _ => trivial⟩ (fun h => h.elim) (fun _ => ?_)
  refine V_iload_n hc dL_isFull_45 0 rfl ?_
  refine V_iconst hc dL_isFull_46 ?_
  refine V_isub hc dL_isFull_47 ?_
  refine V_istore hc dL_isFull_48 [(4, .int (iI (64 - 1))), (3, .int (iI 64)), (2, .int (iI 1)), (0, .ref hB), (1, .int (iI x))] (Nat.le_of_ble_eq_true rfl) rfl ?_
  refine V_lv [3, 4, 2, 1, 0] [(0, .ref hB), (1, .int (iI x)), (2, .int (iI 1)), (3, .int (iI ((64 : Nat) : Int))), (4, .int (iI ((63 : Nat) : Int)))] rfl ?_
  refine V_widen (k1 := 6 + 2 * 0) (n1 := 36 + 12 * 0) (Nat.le_of_ble_eq_true rfl) (Nat.le_of_ble_eq_true rfl) ?_
  exact LI 126 0 64 63 0 _ _ _ rfl rfl hW3 hIC rfl rfl rfl
