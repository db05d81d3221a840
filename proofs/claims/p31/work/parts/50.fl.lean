/-! a full tree, its queue, its rebuilds -/
def fl_KL : List Int := [253, 125, 381, 61, 189, 317, 445, 29, 93, 157, 221, 285, 349, 413, 477, 13, 45, 77, 109, 141, 173, 205, 237, 269, 301, 333, 365, 397, 429, 461, 5, 21, 37, 53, 69, 85, 101, 117, 133, 149, 165, 181, 197, 213, 229, 245, 261, 277, 293, 309, 325, 341, 357, 373, 389, 405, 421, 437, 453, 469, 1, 9, 17, 25, 33, 41, 49, 57, 65, 73, 81, 89, 97, 105, 113, 121, 129, 137, 145, 153, 161, 169, 177, 185, 193, 201, 209, 217, 225, 233, 241, 249, 257, 265, 273, 281, 289, 297, 305, 313, 321, 329, 337, 345, 353, 361, 369, 377, 385, 393, 401, 409, 417, 425, 433, 441, 449, 457, 465, 473]
def fl_M : List Int := [241, 121, 61, 29, 13, 5, 1, 9, 21, 17, 25, 45, 37, 33, 41, 53, 49, 57, 93, 77, 69, 65, 73, 85, 81, 89, 109, 101, 97, 105, 117, 113, 181, 153, 137, 129, 125, 133, 145, 141, 149, 169, 161, 157, 165, 177, 173, 213, 197, 189, 185, 193, 205, 201, 209, 229, 221, 217, 225, 237, 233, 361, 301, 273, 257, 249, 245, 253, 265, 261, 269, 289, 281, 277, 285, 297, 293, 333, 317, 309, 305, 313, 325, 321, 329, 349, 341, 337, 345, 357, 353, 421, 393, 377, 369, 365, 373, 385, 381, 389, 409, 401, 397, 405, 417, 413, 453, 437, 429, 425, 433, 445, 441, 449, 469, 461, 457, 465, 477, 473]
def fl_M9 : List Int := [297, 205, 161, 137, 125, 121, 29, 133, 129, 149, 145, 141, 157, 153, 185, 173, 169, 165, 181, 177, 197, 193, 189, 201, 253, 229, 217, 213, 209, 225, 221, 241, 237, 233, 249, 245, 277, 265, 261, 257, 273, 269, 289, 285, 281, 293, 389, 345, 321, 309, 305, 301, 317, 313, 333, 329, 325, 341, 337, 369, 357, 353, 349, 365, 361, 381, 377, 373, 385, 437, 413, 401, 397, 393, 409, 405, 425, 421, 417, 433, 429, 461, 449, 445, 441, 457, 453, 473, 469, 465, 477]
def fl_C : List (Nat × Nat × Nat) := [(64, 63, 0), (64, 191, 1), (32, 31, 1), (32, 95, 2), (32, 159, 3), (16, 15, 3), (16, 47, 4), (16, 79, 5), (16, 111, 6), (16, 143, 7), (8, 7, 7), (8, 23, 8), (8, 39, 9), (8, 55, 10), (8, 71, 11), (8, 87, 12), (8, 103, 13), (8, 119, 14), (8, 135, 15), (4, 3, 15), (4, 11, 16), (4, 19, 17), (4, 27, 18), (4, 35, 19), (4, 43, 20), (4, 51, 21), (4, 59, 22), (4, 67, 23), (4, 75, 24), (4, 83, 25), (4, 91, 26), (4, 99, 27), (4, 107, 28), (4, 115, 29), (4, 123, 30), (2, 1, 30), (2, 5, 31), (2, 9, 32), (2, 13, 33), (2, 17, 34), (2, 21, 35), (2, 25, 36), (2, 29, 37), (2, 33, 38), (2, 37, 39), (2, 41, 40), (2, 45, 41), (2, 49, 42), (2, 53, 43), (2, 57, 44), (2, 61, 45), (2, 65, 46), (2, 69, 47), (2, 73, 48), (2, 77, 49), (2, 81, 50), (2, 85, 51), (2, 89, 52), (2, 93, 53), (2, 97, 54), (2, 101, 55), (2, 105, 56), (2, 109, 57), (2, 113, 58), (2, 117, 59), (2, 121, 60), (1, 0, 60), (1, 2, 61), (1, 4, 62), (1, 6, 63), (1, 8, 64), (1, 10, 65), (1, 12, 66), (1, 14, 67), (1, 16, 68), (1, 18, 69), (1, 20, 70), (1, 22, 71), (1, 24, 72), (1, 26, 73), (1, 28, 74), (1, 30, 75), (1, 32, 76), (1, 34, 77), (1, 36, 78), (1, 38, 79), (1, 40, 80), (1, 42, 81), (1, 44, 82), (1, 46, 83), (1, 48, 84), (1, 50, 85), (1, 52, 86), (1, 54, 87), (1, 56, 88), (1, 58, 89), (1, 60, 90), (1, 62, 91), (1, 64, 92), (1, 66, 93), (1, 68, 94), (1, 70, 95), (1, 72, 96), (1, 74, 97), (1, 76, 98), (1, 78, 99), (1, 80, 100), (1, 82, 101), (1, 84, 102), (1, 86, 103), (1, 88, 104), (1, 90, 105), (1, 92, 106), (1, 94, 107), (1, 96, 108), (1, 98, 109), (1, 100, 110), (1, 102, 111), (1, 104, 112), (1, 106, 113), (1, 108, 114), (1, 110, 115), (1, 112, 116), (1, 114, 117), (1, 116, 118), (1, 118, 119), (1, 120, 120)]
abbrev fl_0 : Int → Int := fun _ => 0
def fl_q (k : Nat) : Int → Int := fun y => if 1 ≤ y ∧ y < 4 * (k : Int) + 1 ∧ (y - 1) % 4 = 0 then 1 else 0
def fl_z : Int → Int := uM (fl_q 30) 29 0
def fl_Q (k : Nat) : List Int := (List.range k).map (fun (i : Nat) => 500 + (4 * (i : Int) + 1))
def fl_E : Nat → Int := uI (uI (uI ta_FIRST_VALUES 0 100) 1 40) 2 1
def fl_E2 : Nat → Int := uI fl_E 2 8
abbrev fl_J0 : List Int × Nat × List Int × Int := ([], 0, [], 0)
def fl_cN (N : Nat → Int) (w : Int) : Nat → Int := fun i => if i = 0 then w else if i = 1 then max (N 1) w else if i = 2 then N 2 + w else if i = 3 then N 3 + 1 else N i
theorem fl_cN_4 {N : Nat → Int} {w : Int} : fl_cN N w 4 = N 4 := rfl
theorem fl_cN_5 {N : Nat → Int} {w : Int} : fl_cN N w 5 = N 5 := rfl
theorem fl_cN_6 {N : Nat → Int} {w : Int} : fl_cN N w 6 = N 6 := rfl
theorem fl_len : fl_KL.length = 120 ∧ fl_M.length = 120 ∧ fl_M9.length = 91 := by decide +kernel
theorem fl_nd : fl_KL.Nodup ∧ fl_M.Nodup ∧ fl_M9.Nodup := by decide +kernel
theorem fl_all : ∀ y ∈ fl_KL, (0 ≤ y ∧ y < 500) ∧ y % 4 = 1 := by decide +kernel
theorem fl_has : ∀ k : Nat, k < 120 → 4 * (k : Int) + 1 ∈ fl_KL := by decide +kernel
def fl_c (c : Nat) : Nat × Nat × Nat := fl_C.getD c (0, 0, 0)
theorem fl_C_1 : ∀ c : Nat, c < 127 → (fl_c c).1 ≤ 64 ∧ 1 ≤ (fl_c c).1 ∧ (fl_c c).2.1 ≤ 255 ∧ (fl_c c).2.2 ≤ 120 := by decide +kernel
theorem fl_C_2 : ∀ c : Nat, c < 127 → ¬ (fl_c c).2.1 < 120 ∨ ((fl_c c).2.2 < 120 ∧ fl_KL.getD (fl_c c).2.2 0 = 4 * ((fl_c c).2.1 : Int) + 1 ∧ c + 1 < 127 ∧ fl_c (c + 1) = ((fl_c c).1, (fl_c c).2.1 + 2 * (fl_c c).1, (fl_c c).2.2 + 1)) := by decide +kernel
theorem fl_C_3 : ∀ c : Nat, c < 127 → (fl_c c).2.1 < 120 ∨ (c + 1 < 127 ∧ 1 ≤ (fl_c c).1 / 2 ∧ fl_c (c + 1) = ((fl_c c).1 / 2, (fl_c c).1 / 2 - 1, (fl_c c).2.2)) ∨ (c + 1 = 127 ∧ (fl_c c).1 = 1 ∧ (fl_c c).2.2 = 120) := by decide +kernel
theorem fl_29 : (29 : Int) ∈ fl_KL := fl_has 7 (by decide)
theorem fl_C_ok : ∀ c : Nat, c < 127 → ((fl_C.getD c (0, 0, 0)).1 ≤ 64 ∧ 1 ≤ (fl_C.getD c (0, 0, 0)).1 ∧ (fl_C.getD c (0, 0, 0)).2.1 ≤ 255 ∧ (fl_C.getD c (0, 0, 0)).2.2 ≤ 120) ∧ ((fl_C.getD c (0, 0, 0)).2.1 < 120 → (fl_C.getD c (0, 0, 0)).2.2 < 120 ∧ fl_KL.getD (fl_C.getD c (0, 0, 0)).2.2 0 = 4 * ((fl_C.getD c (0, 0, 0)).2.1 : Int) + 1 ∧ c + 1 < 127 ∧ fl_C.getD (c + 1) (0, 0, 0) = ((fl_C.getD c (0, 0, 0)).1, (fl_C.getD c (0, 0, 0)).2.1 + 2 * (fl_C.getD c (0, 0, 0)).1, (fl_C.getD c (0, 0, 0)).2.2 + 1)) ∧ (¬ (fl_C.getD c (0, 0, 0)).2.1 < 120 → (c + 1 < 127 → 1 ≤ (fl_C.getD c (0, 0, 0)).1 / 2 ∧ fl_C.getD (c + 1) (0, 0, 0) = ((fl_C.getD c (0, 0, 0)).1 / 2, (fl_C.getD c (0, 0, 0)).1 / 2 - 1, (fl_C.getD c (0, 0, 0)).2.2)) ∧ (c + 1 = 127 → (fl_C.getD c (0, 0, 0)).1 = 1 ∧ (fl_C.getD c (0, 0, 0)).2.2 = 120)) := by
  intro c hc
  refine ⟨fl_C_1 c hc, fun h => (fl_C_2 c hc).resolve_left (fun q => q h), fun h => ⟨fun h1 => ?_, fun h1 => ?_⟩⟩
  · rcases fl_C_3 c hc with q | q | q
    · exact absurd q h
    · exact q.2
    · exact absurd q.1 (by omega)
  · rcases fl_C_3 c hc with q | q | q
    · exact absurd q h
    · exact absurd q.1 (by omega)
    · exact q.2
theorem fl_dep : ∀ y ∈ fl_KL, ab_dep fl_KL y ≤ 7 := by decide +kernel
theorem fl_dm : ab_dmax fl_KL = 7 := by decide +kernel
theorem fl_dm9 : ab_dmax fl_M9 = 7 := by decide +kernel
theorem fl_lst : ab_lst fl_KL fl_0 = fl_M := by decide +kernel
theorem fl_lst9 : ab_lst fl_KL fl_z = fl_M9 := by decide +kernel
theorem fl_np9 : ab_np fl_KL fl_z = 91 := by decide +kernel
theorem fl_npq : ab_np fl_KL (fl_q 30) = 90 := by decide +kernel
theorem fl_np0 (L : List Int) : ab_np L fl_0 = (L.length : Int) := by
  unfold ab_np
  have h : L.countP (fun y => decide (fl_0 y = 0)) = L.length := List.countP_eq_length.mpr (fun _ _ => rfl)
  rw [h]
theorem fl_dep_le : ∀ (A B : List Int) (key lo hi : Int), (tk_sk key A lo hi).length ≤ (tk_sk key (A ++ B) lo hi).length := by
  intro A
  induction A with
  | nil => intro B key lo hi; exact Nat.zero_le _
  | cons x A ih =>
    intro B key lo hi
    rw [List.cons_append]
    unfold tk_sk
    split
    · split
      · exact Nat.le_refl _
      · split
        · rw [List.length_cons, List.length_cons]
          exact Nat.succ_le_succ (ih B key lo x)
        · rw [List.length_cons, List.length_cons]
          exact Nat.succ_le_succ (ih B key x hi)
    · exact ih B key lo hi
theorem fl_dmax_le {m : Int} (L : List Int) (hm : 0 ≤ m) (h : ∀ y ∈ L, ab_dep L y ≤ m) : ab_dmax L ≤ m := by
  unfold ab_dmax
  have : ∀ (S : List Int) (g : Int), g ≤ m → (∀ y ∈ S, ab_dep L y ≤ m) → S.foldl (fun g y => max g (ab_dep L y)) g ≤ m := by
    intro S
    induction S with
    | nil => intro g hg _; exact hg
    | cons x S ih =>
      intro g hg hS
      have h1 := hS x List.mem_cons_self
      exact ih _ (by show max g (ab_dep L x) ≤ m; omega) (fun y hy => hS y (List.mem_cons_of_mem _ hy))
  exact this L 0 hm h
theorem fl_dmax_take (p : Nat) : ab_dmax (fl_KL.take p) ≤ 40 := by
  refine fl_dmax_le _ (by decide) (fun y hy => ?_)
  have h1 := fl_dep y ((List.take_sublist p fl_KL).subset hy)
  have h2 : (ab_s y (fl_KL.take p)).length ≤ (ab_s y fl_KL).length := by
    have q := fl_dep_le (fl_KL.take p) (fl_KL.drop p) y (-1) 500
    rw [List.take_append_drop] at q
    exact q
  unfold ab_dep at h1 ⊢
  omega
theorem fl_need {L : List Int} {mk : Int → Int} {U : aT} {J : List Int × Nat × List Int × Int} {E N : Nat → Int} (h1 : 100 * ((L.length : Int) - ab_np L mk) ≤ E 0 * (L.length : Int)) (h2 : ab_dmax L ≤ E 1) : ¬ ab_need ((L, mk), U, J, E, N) := by
  rintro (h | h)
  · have h : 100 * ((L.length : Int) - ab_np L mk) > E 0 * (L.length : Int) := h
    omega
  · have h : ab_dmax L > E 1 := h
    omega
theorem fl_E_0 : fl_E 0 = 100 := rfl
theorem fl_E_1 : fl_E 1 = 40 := rfl
theorem fl_E_2 : fl_E 2 = 1 := rfl
theorem fl_E2_0 : fl_E2 0 = 100 := rfl
theorem fl_E2_1 : fl_E2 1 = 40 := rfl
theorem fl_E2_2 : fl_E2 2 = 8 := rfl
/-! acts without a rebuild -/
theorem fl_act0 {T : aT} {E N : Nat → Int} {a : Int} (ha : a ≠ -1) (hn : ¬ ab_need (ab_tact T a, ab_e0, fl_J0, E, N)) : (ab_act (T, ab_e0, fl_J0, E, N) a).2 = (ab_tact T a, ab_e0, fl_J0, E, fl_cN N (ab_dep T.1 (a % 500))) := by
  have e2 : ab_p2 (T, ab_e0, fl_J0, E, N) a = (ab_tact T a, ab_e0, fl_J0, E, N) := by
    unfold ab_p2
    rw [if_neg (fun q => absurd (show (0 : Int) = 1 from q.1) (by decide))] <;> rfl
  unfold ab_act
  rw [if_neg ha, e2, ab_adv_stop (show as_R (ab_tact T a, ab_e0, fl_J0, E, N) = 0 from rfl)]
  unfold ab_fin ab_beg1
  rw [if_neg (fun q => hn q.2)] <;> rfl
theorem fl_idle0 {T : aT} {E N : Nat → Int} (hn : ¬ ab_need (T, ab_e0, fl_J0, E, N)) : (ab_act (T, ab_e0, fl_J0, E, N) (-1)).2 = (T, ab_e0, fl_J0, E, fl_cN N 0) := by
  unfold ab_act
  rw [if_pos rfl, ab_adv_stop (show as_R (T, ab_e0, fl_J0, E, N) = 0 from rfl)]
  unfold ab_fin ab_beg1
  rw [if_neg (fun q => hn q.2)] <;> rfl
theorem fl_uM0 (key : Int) : uM fl_0 key 0 = fl_0 := by
  funext y
  unfold uM
  split <;> rfl
theorem fl_put {M : List Int} {c : Nat} (hc : c < M.length) (hM : M.Nodup) : ab_tput (M.take c, fl_0) (M.getD c 0) = (M.take (c + 1), fl_0) := by
  have e : M.take (c + 1) = M.take c ++ [M.getD c 0] := by
    rw [List.take_add_one, ab_getD hc] <;> rfl
  have hn : M.getD c 0 ∉ M.take c := by
    intro q
    have h1 : (M.take (c + 1)).Nodup := List.Nodup.sublist (List.take_sublist _ _) hM
    rw [e, List.nodup_append] at h1
    exact h1.2.2 _ q _ List.mem_cons_self rfl
  unfold ab_tput
  show (ab_put (M.take c) (M.getD c 0), uM fl_0 (M.getD c 0) 0) = (M.take (c + 1), fl_0)
  unfold ab_put
  rw [if_neg hn, fl_uM0, e]
theorem fl_add {p : Nat} (hp : p < 120) {key : Int} (hk : fl_KL.getD p 0 = key) {N : Nat → Int} : (ab_act ((fl_KL.take p, fl_0), ab_e0, fl_J0, fl_E, N) key).2 = ((fl_KL.take (p + 1), fl_0), ab_e0, fl_J0, fl_E, fl_cN N (ab_dep (fl_KL.take p) (key % 500))) := by
  subst hk
  have hlt : p < fl_KL.length := by rw [fl_len.1]; exact hp
  have hm := fl_all _ (List.mem_of_getElem? (ab_getD hlt))
  have e : ab_tact (fl_KL.take p, fl_0) (fl_KL.getD p 0) = (fl_KL.take (p + 1), fl_0) := by
    unfold ab_tact
    rw [if_pos hm.1.2]
    exact fl_put hlt fl_nd.1
  have h := fl_act0 (T := (fl_KL.take p, fl_0)) (E := fl_E) (N := N) (a := fl_KL.getD p 0) (by omega) (by
    rw [e]
    refine fl_need ?_ ?_
    · rw [fl_np0, fl_E_0]
      omega
    · rw [fl_E_1]
      exact fl_dmax_take _)
  rw [h, e]
theorem fl_add_new {p : Nat} (hp : p < 120) {key : Int} (hk : fl_KL.getD p 0 = key) : key ∉ fl_KL.take p := by
  subst hk
  have hlt : p < fl_KL.length := by rw [fl_len.1]; exact hp
  intro q
  have h1 : (fl_KL.take (p + 1)).Nodup := List.Nodup.sublist (List.take_sublist _ _) fl_nd.1
  have e : fl_KL.take (p + 1) = fl_KL.take p ++ [fl_KL.getD p 0] := by
    rw [List.take_add_one, ab_getD hlt] <;> rfl
  rw [e, List.nodup_append] at h1
  exact h1.2.2 _ q _ List.mem_cons_self rfl
theorem fl_noneed {U : aT} {J : List Int × Nat × List Int × Int} {N : Nat → Int} : ¬ ab_need ((fl_KL, fl_0), U, J, fl_E, N) := by
  refine fl_need ?_ ?_
  · rw [fl_np0, fl_E_0]
    omega
  · rw [fl_E_1, fl_dm]
    decide
/-- the removal of a key without a node, the adding of a key that is present: the counts alone change -/
theorem fl_same {a : Int} (ha : 0 ≤ a) (he : ab_tact (fl_KL, fl_0) a = (fl_KL, fl_0)) {N : Nat → Int} : (ab_act ((fl_KL, fl_0), ab_e0, fl_J0, fl_E, N) a).2 = ((fl_KL, fl_0), ab_e0, fl_J0, fl_E, fl_cN N (ab_dep fl_KL (a % 500))) := by
  have h := fl_act0 (T := (fl_KL, fl_0)) (E := fl_E) (N := N) (a := a) (by omega) (by rw [he]; exact fl_noneed)
  rw [h, he]
theorem fl_t_rem {key : Int} (h : key ∉ fl_KL) (h5 : 0 ≤ key) : ab_tact (fl_KL, fl_0) (key + 500) = (fl_KL, fl_0) := by
  unfold ab_tact
  rw [if_neg (by omega)]
  unfold ab_tmark
  show (fl_KL, if key + 500 - 500 ∈ fl_KL then uM fl_0 (key + 500 - 500) 1 else fl_0) = _
  rw [show key + 500 - 500 = key by omega, if_neg h]
theorem fl_t_add {key : Int} (h : key ∈ fl_KL) (h5 : key < 500) : ab_tact (fl_KL, fl_0) key = (fl_KL, fl_0) := by
  unfold ab_tact
  rw [if_pos h5]
  unfold ab_tput
  show (ab_put fl_KL key, uM fl_0 key 0) = _
  unfold ab_put
  rw [if_pos h, fl_uM0]
/-! acts while keys are copied -/
theorem fl_tk {T : aT} {M : List Int} {c : Nat} {Q : List Int} {E N : Nat → Int} (hc : c < M.length) (hM : M.Nodup) : ab_tk (T, (M.take c, fl_0), (M, c, Q, 1), E, N) = (1, (T, (M.take (c + 1), fl_0), (M, c + 1, Q, 1), E, N)) := by
  unfold ab_tk
  show (if c < M.length then ((1 : Int), ((T, ab_tput (M.take c, fl_0) (M.getD c 0), (M, c + 1, Q, 1), E, N) : aS)) else _) = _
  rw [if_pos hc, fl_put hc hM]
theorem fl_st {T : aT} {M : List Int} {c : Nat} {Q : List Int} {E N : Nat → Int} (hc : c + 1 < M.length) (hM : M.Nodup) : ab_st (T, (M.take c, fl_0), (M, c, Q, 1), E, N) = (1, (T, (M.take (c + 1), fl_0), (M, c + 1, Q, 1), E, N)) := by
  unfold ab_st
  rw [fl_tk (by omega) hM, if_neg]
  rintro ⟨h, -⟩
  have h : c + 1 = M.length := h
  omega
theorem fl_stX {T : aT} {M : List Int} {c : Nat} {E N : Nat → Int} (hc : c + 1 = M.length) (hM : M.Nodup) : ab_st (T, (M.take c, fl_0), (M, c, [], 1), E, N) = (1, ((M, fl_0), ab_e0, fl_J0, E, uI N 5 (N 5 + 1))) := by
  unfold ab_st
  rw [fl_tk (by omega) hM, if_pos ⟨hc, rfl⟩]
  show (1, ((M.take (c + 1), fl_0), ab_e0, fl_J0, E, uI N 5 (N 5 + 1))) = _
  rw [List.take_of_length_le (by omega)]
theorem fl_adv : ∀ (n c : Nat) (w : Int) (T : aT) (M : List Int) (Q : List Int) (E N : Nat → Int), c + n < M.length → M.Nodup → ab_adv n w (T, (M.take c, fl_0), (M, c, Q, 1), E, N) = (w + (n : Int), (T, (M.take (c + n), fl_0), (M, c + n, Q, 1), E, N)) := by
  intro n
  induction n with
  | zero =>
    intro c w T M Q E N hc hM
    rw [show w + ((0 : Nat) : Int) = w by omega] <;> rfl
  | succ n ih =>
    intro c w T M Q E N hc hM
    unfold ab_adv
    rw [if_pos (show as_R (T, (M.take c, fl_0), (M, c, Q, 1), E, N) = 1 from rfl), fl_st (by omega) hM]
    show ab_adv n (w + 1) (T, (M.take (c + 1), fl_0), (M, c + 1, Q, 1), E, N) = _
    rw [ih (c + 1) (w + 1) T M Q E N (by omega) hM, show w + 1 + (n : Int) = w + ((n + 1 : Nat) : Int) by omega, show c + 1 + n = c + (n + 1) by omega]
theorem fl_act1 {T T2 : aT} {M : List Int} {c : Nat} {Q Q2 : List Int} {E N : Nat → Int} {a : Int} (ha : a ≠ -1) (hE : E 2 = 1) (hp : ab_p2 (T, (M.take c, fl_0), (M, c, Q, 1), E, N) a = (T2, (M.take c, fl_0), (M, c, Q2, 1), E, N)) (hc : c + 1 < M.length) (hM : M.Nodup) : (ab_act (T, (M.take c, fl_0), (M, c, Q, 1), E, N) a).2 = (T2, (M.take (c + 1), fl_0), (M, c + 1, Q2, 1), E, fl_cN N (ab_dep T.1 (a % 500) + 1)) := by
  unfold ab_act
  rw [if_neg ha, hp]
  have e1 : (as_E (T, (M.take c, fl_0), (M, c, Q, 1), E, N) 2).toNat = 1 := by
    show (E 2).toNat = 1
    rw [hE] <;> rfl
  rw [e1, fl_adv 1 c _ T2 M Q2 E N (by omega) hM]
  unfold ab_fin ab_beg1
  rw [if_neg (fun q => absurd (show (1 : Int) = 0 from q.1) (by decide))] <;> rfl
theorem fl_p2c {T U : aT} {M : List Int} {c : Nat} {Q : List Int} {E N : Nat → Int} {a : Int} (hq : Q.length ≠ 30) (hc : ab_chg T a) : ab_p2 (T, U, (M, c, Q, 1), E, N) a = (ab_tact T a, U, (M, c, Q ++ [a], 1), E, N) := by
  unfold ab_p2
  rw [if_pos ⟨rfl, hc⟩]
  unfold ab_q
  rw [if_neg (show ¬ (as_Q (ab_p1 (T, U, (M, c, Q, 1), E, N) a)).length = 30 from hq)] <;> rfl
theorem fl_p2n {T U : aT} {M : List Int} {c : Nat} {Q : List Int} {E N : Nat → Int} {a : Int} (hc : ¬ ab_chg T a) : ab_p2 (T, U, (M, c, Q, 1), E, N) a = (ab_tact T a, U, (M, c, Q, 1), E, N) := by
  unfold ab_p2
  rw [if_neg (fun q => hc q.2)] <;> rfl
theorem fl_p2x {T U : aT} {M : List Int} {c : Nat} {Q : List Int} {E N : Nat → Int} {a : Int} (hq : Q.length = 30) (hc : ab_chg T a) : ab_p2 (T, U, (M, c, Q, 1), E, N) a = (ab_tact T a, ab_e0, fl_J0, E, uI N 6 (N 6 + 1)) := by
  unfold ab_p2
  rw [if_pos ⟨rfl, hc⟩]
  unfold ab_q
  rw [if_pos (show (as_Q (ab_p1 (T, U, (M, c, Q, 1), E, N) a)).length = 30 from hq)] <;> rfl
theorem fl_actX {T : aT} {U : aT} {M : List Int} {c : Nat} {Q : List Int} {E N : Nat → Int} {a : Int} (ha : a ≠ -1) (hq : Q.length = 30) (hc : ab_chg T a) (hn : ∀ N, ¬ ab_need (ab_tact T a, ab_e0, fl_J0, E, N)) : (ab_act (T, U, (M, c, Q, 1), E, N) a).2 = (ab_tact T a, ab_e0, fl_J0, E, fl_cN (uI N 6 (N 6 + 1)) (ab_dep T.1 (a % 500))) := by
  unfold ab_act
  rw [if_neg ha, fl_p2x hq hc, ab_adv_stop (show as_R (ab_tact T a, ab_e0, fl_J0, E, uI N 6 (N 6 + 1)) = 0 from rfl)]
  unfold ab_fin ab_beg1
  rw [if_neg (fun q => hn _ q.2)] <;> rfl
/-! the thirty removals -/
theorem fl_q_0 : fl_q 0 = fl_0 := by
  funext y
  unfold fl_q
  rw [if_neg (by omega)]
theorem fl_q_s (k : Nat) : uM (fl_q k) (4 * (k : Int) + 1) 1 = fl_q (k + 1) := by
  funext y
  unfold uM fl_q
  by_cases h : y = 4 * (k : Int) + 1
  · rw [if_pos h, if_pos (by omega)]
  · rw [if_neg h]
    by_cases h2 : 1 ≤ y ∧ y < 4 * (k : Int) + 1 ∧ (y - 1) % 4 = 0
    · rw [if_pos h2, if_pos (by omega)]
    · rw [if_neg h2, if_neg (by omega)]
theorem fl_q_at (k : Nat) : fl_q k (4 * (k : Int) + 1) = 0 := by
  unfold fl_q
  rw [if_neg (by omega)]
theorem fl_Q_len (k : Nat) : (fl_Q k).length = k := by
  unfold fl_Q
  rw [List.length_map, List.length_range]
theorem fl_Q_s (k : Nat) : fl_Q k ++ [4 * (k : Int) + 1 + 500] = fl_Q (k + 1) := by
  unfold fl_Q
  rw [List.range_succ, List.map_append]
  congr 1
  show [4 * (k : Int) + 1 + 500] = [500 + (4 * (k : Int) + 1)]
  rw [Int.add_comm]
theorem fl_Q_at (k : Nat) : ((fl_Q (k + 1))[((k : Nat) : Int).toNat]?).getD (-1) = 500 + (4 * (k : Int) + 1) := by
  rw [Int.toNat_natCast, ← fl_Q_s k, List.getElem?_append_right (by rw [fl_Q_len]; exact Nat.le_refl _), fl_Q_len, Nat.sub_self]
  show 4 * (k : Int) + 1 + 500 = 500 + (4 * (k : Int) + 1)
  omega
set_option maxRecDepth 100000 in
theorem fl_rem {k : Nat} (hk : k < 30) {N : Nat → Int} : ab_pres (fl_KL, fl_q k) (4 * (k : Int) + 1) ∧ (ab_act ((fl_KL, fl_q k), (fl_M.take k, fl_0), (fl_M, k, fl_Q k, 1), fl_E, N) (4 * (k : Int) + 1 + 500)).2 = ((fl_KL, fl_q (k + 1)), (fl_M.take (k + 1), fl_0), (fl_M, k + 1, fl_Q (k + 1), 1), fl_E, fl_cN N (ab_dep fl_KL ((4 * (k : Int) + 1 + 500) % 500) + 1)) := by
  have hm := fl_has k (by omega)
  have hp : ab_pres (fl_KL, fl_q k) (4 * (k : Int) + 1) := ⟨hm, fl_q_at k⟩
  refine ⟨hp, ?_⟩
  have hc : ab_chg (fl_KL, fl_q k) (4 * (k : Int) + 1 + 500) := by
    unfold ab_chg
    rw [if_neg (by omega), show 4 * (k : Int) + 1 + 500 - 500 = 4 * (k : Int) + 1 by omega]
    exact hp
  have ht : ab_tact (fl_KL, fl_q k) (4 * (k : Int) + 1 + 500) = (fl_KL, fl_q (k + 1)) := by
    unfold ab_tact
    rw [if_neg (by omega)]
    unfold ab_tmark
    show (fl_KL, if 4 * (k : Int) + 1 + 500 - 500 ∈ fl_KL then uM (fl_q k) (4 * (k : Int) + 1 + 500 - 500) 1 else fl_q k) = _
    rw [show 4 * (k : Int) + 1 + 500 - 500 = 4 * (k : Int) + 1 by omega, if_pos hm, fl_q_s]
  have h2 := fl_p2c (T := (fl_KL, fl_q k)) (U := (fl_M.take k, fl_0)) (M := fl_M) (c := k) (Q := fl_Q k) (E := fl_E) (N := N) (a := 4 * (k : Int) + 1 + 500) (by rw [fl_Q_len]; omega) hc
  rw [ht, fl_Q_s] at h2
  exact fl_act1 (by omega) fl_E_2 h2 (by rw [fl_len.2.1]; omega) fl_nd.2.1
theorem fl_rem7 {N : Nat → Int} : ¬ ab_pres (fl_KL, fl_q 30) 29 ∧ (ab_act ((fl_KL, fl_q 30), (fl_M.take 30, fl_0), (fl_M, 30, fl_Q 30, 1), fl_E, N) (29 + 500)).2 = ((fl_KL, fl_q 30), (fl_M.take 31, fl_0), (fl_M, 31, fl_Q 30, 1), fl_E, fl_cN N (ab_dep fl_KL ((29 + 500) % 500) + 1)) := by
  have hp : ¬ ab_pres (fl_KL, fl_q 30) 29 := fun q => absurd (show fl_q 30 29 = 0 from q.2) (by decide)
  refine ⟨hp, ?_⟩
  have hc : ¬ ab_chg (fl_KL, fl_q 30) (29 + 500) := by
    unfold ab_chg
    rw [if_neg (by decide)]
    exact hp
  have ht : ab_tact (fl_KL, fl_q 30) (29 + 500) = (fl_KL, fl_q 30) := by
    unfold ab_tact
    rw [if_neg (by decide)]
    unfold ab_tmark
    show (fl_KL, if (29 : Int) ∈ fl_KL then uM (fl_q 30) 29 1 else fl_q 30) = _
    rw [if_pos fl_29]
    congr 1
    funext y
    unfold uM
    by_cases h : y = 29
    · rw [if_pos h, h]
      rfl
    · rw [if_neg h]
  have h2 := fl_p2n (T := (fl_KL, fl_q 30)) (U := (fl_M.take 30, fl_0)) (M := fl_M) (c := 30) (Q := fl_Q 30) (E := fl_E) (N := N) (a := 29 + 500) hc
  rw [ht] at h2
  exact fl_act1 (by decide) fl_E_2 h2 (by rw [fl_len.2.1]; decide) fl_nd.2.1
theorem fl_nz {N : Nat → Int} {E : Nat → Int} (h0 : E 0 = 100) (h1 : E 1 = 40) {U : aT} {J : List Int × Nat × List Int × Int} : ¬ ab_need ((fl_KL, fl_z), U, J, E, N) := by
  refine fl_need ?_ ?_
  · rw [fl_np9, fl_len.1, h0]
    decide
  · rw [h1, fl_dm]
    decide
theorem fl_add7 {N : Nat → Int} : (ab_act ((fl_KL, fl_q 30), (fl_M.take 31, fl_0), (fl_M, 31, fl_Q 30, 1), fl_E, N) 29).2 = ((fl_KL, fl_z), ab_e0, fl_J0, fl_E, fl_cN (uI N 6 (N 6 + 1)) (ab_dep fl_KL (29 % 500))) := by
  have hc : ab_chg (fl_KL, fl_q 30) 29 := by
    unfold ab_chg
    rw [if_pos (by decide)]
    exact (fl_rem7 (N := N)).1
  have ht : ab_tact (fl_KL, fl_q 30) 29 = (fl_KL, fl_z) := by
    unfold ab_tact
    rw [if_pos (by decide)]
    unfold ab_tput
    show (ab_put fl_KL 29, uM (fl_q 30) 29 0) = _
    unfold ab_put
    rw [if_pos fl_29] <;> rfl
  have h := fl_actX (T := (fl_KL, fl_q 30)) (U := (fl_M.take 31, fl_0)) (M := fl_M) (c := 31) (Q := fl_Q 30) (E := fl_E) (N := N) (a := 29) (by decide) (fl_Q_len 30) hc (fun N => by rw [ht]; exact fl_nz fl_E_0 fl_E_1)
  rw [h, ht]
/-! the second rebuild -/
theorem fl_idle8 {k : Nat} (hk : k < 11) {N : Nat → Int} : ab_act ((fl_KL, fl_z), (fl_M9.take (8 * k), fl_0), (fl_M9, 8 * k, [], 1), fl_E2, N) (-1) = (8, ((fl_KL, fl_z), (fl_M9.take (8 * (k + 1)), fl_0), (fl_M9, 8 * (k + 1), [], 1), fl_E2, fl_cN N 8)) := by
  unfold ab_act
  rw [if_pos rfl]
  have e1 : (as_E ((fl_KL, fl_z), (fl_M9.take (8 * k), fl_0), (fl_M9, 8 * k, [], 1), fl_E2, N) 2).toNat = 8 := rfl
  rw [e1, fl_adv 8 (8 * k) 0 (fl_KL, fl_z) fl_M9 [] fl_E2 N (by rw [fl_len.2.2]; omega) fl_nd.2.2]
  unfold ab_fin ab_beg1
  rw [if_neg (fun q => absurd (show (1 : Int) = 0 from q.1) (by decide))] <;> rfl
theorem fl_idle3 {N : Nat → Int} : ab_act ((fl_KL, fl_z), (fl_M9.take 88, fl_0), (fl_M9, 88, [], 1), fl_E2, N) (-1) = (3, ((fl_M9, fl_0), ab_e0, fl_J0, fl_E2, fl_cN (uI N 5 (N 5 + 1)) 3)) := by
  unfold ab_act
  rw [if_pos rfl]
  have e1 : (as_E ((fl_KL, fl_z), (fl_M9.take 88, fl_0), (fl_M9, 88, [], 1), fl_E2, N) 2).toNat = 8 := rfl
  have e2 : ab_adv 8 0 ((fl_KL, fl_z), (fl_M9.take 88, fl_0), (fl_M9, 88, [], 1), fl_E2, N) = (3, ((fl_M9, fl_0), ab_e0, fl_J0, fl_E2, uI N 5 (N 5 + 1))) := by
    have s1 := fl_st (T := (fl_KL, fl_z)) (M := fl_M9) (c := 88) (Q := []) (E := fl_E2) (N := N) (by rw [fl_len.2.2]; decide) fl_nd.2.2
    have s2 := fl_st (T := (fl_KL, fl_z)) (M := fl_M9) (c := 89) (Q := []) (E := fl_E2) (N := N) (by rw [fl_len.2.2]; decide) fl_nd.2.2
    have s3 := fl_stX (T := (fl_KL, fl_z)) (M := fl_M9) (c := 90) (E := fl_E2) (N := N) (by rw [fl_len.2.2]) fl_nd.2.2
    show (if (1 : Int) = 1 then ab_adv 7 (0 + (ab_st ((fl_KL, fl_z), (fl_M9.take 88, fl_0), (fl_M9, 88, [], 1), fl_E2, N)).1) (ab_st ((fl_KL, fl_z), (fl_M9.take 88, fl_0), (fl_M9, 88, [], 1), fl_E2, N)).2 else _) = _
    rw [if_pos rfl, s1]
    show (if (1 : Int) = 1 then ab_adv 6 (0 + 1 + (ab_st ((fl_KL, fl_z), (fl_M9.take 89, fl_0), (fl_M9, 89, [], 1), fl_E2, N)).1) (ab_st ((fl_KL, fl_z), (fl_M9.take 89, fl_0), (fl_M9, 89, [], 1), fl_E2, N)).2 else _) = _
    rw [if_pos rfl, s2]
    show (if (1 : Int) = 1 then ab_adv 5 (0 + 1 + 1 + (ab_st ((fl_KL, fl_z), (fl_M9.take 90, fl_0), (fl_M9, 90, [], 1), fl_E2, N)).1) (ab_st ((fl_KL, fl_z), (fl_M9.take 90, fl_0), (fl_M9, 90, [], 1), fl_E2, N)).2 else _) = _
    rw [if_pos rfl, s3]
    exact ab_adv_stop rfl
  rw [e1, e2]
  unfold ab_fin ab_beg1
  rw [if_neg (fun q => absurd q.2 (fl_need (by rw [fl_np0, fl_E2_0]; omega) (by rw [fl_E2_1, fl_dm9]; decide)))] <;> rfl
/-! what the queries tell there -/
theorem fl_cl {T U : aT} {M : List Int} {c : Nat} {Q : List Int} {E N : Nat → Int} {sp : Int} : ab_cl (T, U, (M, c, Q, 1), E, N) sp = ((max 1 ((M.length - c) + Q.length) : Nat) + sp - 1) / sp := rfl
theorem fl_ls8 {A : aS} (h : ∀ sp, ab_cl A sp = (119 + sp - 1) / sp) : ab_ls A 15 8 ∧ ab_ls A 14 (-1) ∧ ab_ls A 119 1 := by
  refine ⟨Or.inr ⟨by decide, by rw [h]; decide, fun s h1 h2 => ?_⟩, Or.inl ⟨rfl, fun s h1 h2 => ?_⟩, Or.inr ⟨by decide, by rw [h]; decide, fun s h1 h2 => by omega⟩⟩
  · rw [h]
    rcases (show s = 1 ∨ s = 2 ∨ s = 3 ∨ s = 4 ∨ s = 5 ∨ s = 6 ∨ s = 7 by omega) with rfl | rfl | rfl | rfl | rfl | rfl | rfl <;> decide
  · rw [h]
    rcases (show s = 1 ∨ s = 2 ∨ s = 3 ∨ s = 4 ∨ s = 5 ∨ s = 6 ∨ s = 7 ∨ s = 8 by omega) with rfl | rfl | rfl | rfl | rfl | rfl | rfl | rfl <;> decide
theorem fl_exe {N : Nat → Int} : (ab_exe [-1, 3] ((fl_KL, fl_0), ab_e0, fl_J0, fl_E, N)).1 = 1 ∧ (ab_exe [-1, 3] ((fl_KL, fl_0), ab_e0, fl_J0, fl_E, N)).2 = ((fl_KL, fl_0), ab_e0, fl_J0, fl_E, fl_cN N 0) := by
  have e1 : ab_exe [3] ((fl_KL, fl_0), ab_e0, fl_J0, fl_E, fl_cN N 0) = (0, ((fl_KL, fl_0), ab_e0, fl_J0, fl_E, fl_cN N 0)) := by
    unfold ab_exe
    rw [if_pos]
    refine ⟨by decide, ?_⟩
    rintro (h | h)
    · exact absurd (fl_all 3 h).2 (by decide)
    · have h : fl_KL.length < 120 := h
      rw [fl_len.1] at h
      omega
  have e2 : ab_exe [-1, 3] ((fl_KL, fl_0), ab_e0, fl_J0, fl_E, N) = ((ab_exe [3] (ab_act ((fl_KL, fl_0), ab_e0, fl_J0, fl_E, N) (-1)).2).1 + 1, (ab_exe [3] (ab_act ((fl_KL, fl_0), ab_e0, fl_J0, fl_E, N) (-1)).2).2) := by
    rw [ab_exe, if_neg (fun q => absurd q.1.1 (by decide))]
  rw [e2, fl_idle0 fl_noneed, e1]
  exact ⟨rfl, rfl⟩
theorem fl_ptx : (ab_ptx [46, 59, 43, 51]).1 = 4 ∧ (ab_ptx [46, 59, 43, 51]).2 = some [-1, 3] := by decide +kernel
