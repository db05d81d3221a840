/-! the present keys by their ranks, the nodes one by one -/
section SO
variable {L : List Int} {mk : Int → Int}
theorem so_at (hg : ab_g L mk) : ∀ (q i : Nat) (x : Int), (ab_pre L mk q)[i]? = some x → (x ∈ L ∧ mk x = 0) ∧ ab_rank L mk x = (i : Int) := by
  intro q
  induction q with
  | zero =>
    intro i x h
    have h : ([] : List Int)[i]? = some x := h
    simp at h
  | succ q ih =>
    intro i x h
    rw [show ab_pre L mk (q + 1) = ab_pre L mk q ++ (if (q : Int) ∈ L ∧ mk (q : Int) = 0 then [(q : Int)] else []) from rfl] at h
    by_cases hi : i < (ab_pre L mk q).length
    · rw [List.getElem?_append_left hi] at h
      exact ih i x h
    · rw [List.getElem?_append_right (by omega)] at h
      by_cases hp : (q : Int) ∈ L ∧ mk (q : Int) = 0
      · rw [if_pos hp] at h
        have hl := (List.getElem?_eq_some_iff.mp h).1
        rw [List.length_singleton] at hl
        have hi2 : i - (ab_pre L mk q).length = 0 := by omega
        rw [hi2] at h
        have hx : (q : Int) = x := Option.some.inj h
        subst hx
        have := ab_pre_len hg q
        exact ⟨hp, by omega⟩
      · rw [if_neg hp] at h
        simp at h
/-- the key behind the present key with this rank: -1 behind none -/
def so_k (L : List Int) (mk : Int → Int) (r : Nat) : Int := (ab_srt L mk).getD r 0
def so_p (L : List Int) (mk : Int → Int) : Nat → Int
  | 0 => -1
  | r + 1 => so_k L mk r
theorem so_p_0 : so_p L mk 0 = -1 := rfl
theorem so_p_s (r : Nat) : so_p L mk (r + 1) = so_k L mk r := rfl
theorem so_key (hg : ab_g L mk) {r : Nat} (hr : (r : Int) < ab_np L mk) : (so_k L mk r ∈ L ∧ mk (so_k L mk r) = 0) ∧ ab_rank L mk (so_k L mk r) = (r : Int) := by
  have hl := ab_srt_len hg
  have h : (ab_srt L mk)[r]? = some (so_k L mk r) := by
    unfold so_k
    exact ab_getD (by omega)
  exact so_at hg 500 r _ h
theorem so_rng (hg : ab_g L mk) {x : Int} (hx : x ∈ L) : 0 ≤ x ∧ x < 500 := by
  have := hg.2.1 x hx
  omega
theorem so_lt (hg : ab_g L mk) {a b : Int} (h : ab_rank L mk a < ab_rank L mk b) : a < b := by
  by_cases hab : a < b
  · exact hab
  · have h1 := ab_rank_mono L mk hg.1 b (a - b).toNat
    rw [show b + ((a - b).toNat : Int) = a by omega] at h1
    omega
theorem so_rank_lt (hg : ab_g L mk) {x : Int} (hx : x ∈ L ∧ mk x = 0) : 0 ≤ ab_rank L mk x ∧ ab_rank L mk x < ab_np L mk := by
  have h1 := ab_rank_le L mk x
  have h2 := ab_rank_lt (L := L) (mk := mk) hg.1 (a := x) (b := 500) hx (so_rng hg hx.1).2
  rw [ab_rank_500 hg] at h2
  exact ⟨h1.1, h2⟩
theorem so_none (hg : ab_g L mk) : ab_kat L mk (ab_np L mk) (-1) := by
  refine Or.inl ⟨rfl, fun y hy h0 h => ?_⟩
  have := (so_rank_lt hg ⟨hy, h0⟩).2
  omega
theorem so_kat (hg : ab_g L mk) {r : Nat} (hr : (r : Int) < ab_np L mk) : ab_kat L mk (r : Int) (so_k L mk r) := by
  obtain ⟨h1, h2⟩ := so_key hg hr
  exact Or.inr ⟨h1.1, h1.2, h2⟩
theorem so_p_rng (hg : ab_g L mk) {r : Nat} (hr : (r : Int) ≤ ab_np L mk) : -1 ≤ so_p L mk r ∧ so_p L mk r < 500 := by
  cases r with
  | zero => exact ⟨Int.le_refl _, by rw [so_p_0]; decide⟩
  | succ r =>
    rw [so_p_s]
    have := so_rng hg (so_key hg (r := r) (by omega)).1.1
    omega
theorem so_k_rng (hg : ab_g L mk) {r : Nat} (hr : (r : Int) < ab_np L mk) : 0 ≤ so_k L mk r ∧ so_k L mk r < 500 := so_rng hg (so_key hg hr).1.1
theorem so_gt (hg : ab_g L mk) {r : Nat} (hr : (r : Int) < ab_np L mk) : so_p L mk r < so_k L mk r := by
  cases r with
  | zero =>
    have := (so_k_rng hg hr).1
    rw [so_p_0]
    omega
  | succ r =>
    rw [so_p_s]
    have h1 := (so_key hg (r := r) (by omega)).2
    have h2 := (so_key hg hr).2
    exact so_lt hg (by omega)
theorem so_n0 (hg : ab_g L mk) {r : Nat} (hr : (r : Int) < ab_np L mk) : ab_le L mk (so_k L mk r) (so_k L mk r) := by
  obtain ⟨h1, h2⟩ := so_key hg hr
  exact Or.inr ⟨h1.1, h1.2, Int.le_refl _, fun y _ _ h => h⟩
theorem so_n1 (hg : ab_g L mk) {r : Nat} (hr : (r : Int) < ab_np L mk) : ab_ge L mk (so_k L mk r) (so_k L mk r) := by
  obtain ⟨h1, h2⟩ := so_key hg hr
  exact Or.inr ⟨h1.1, h1.2, Int.le_refl _, fun y _ _ h => h⟩
theorem so_n2 (hg : ab_g L mk) {r : Nat} (hr : (r : Int) < ab_np L mk) : ab_le L mk (so_k L mk r - 1) (so_p L mk r) := by
  obtain ⟨h1, h2⟩ := so_key hg hr
  cases r with
  | zero =>
    refine Or.inl ⟨rfl, fun y hy h0 hle => ?_⟩
    have h3 := ab_rank_lt (L := L) (mk := mk) hg.1 (a := y) (b := so_k L mk 0) ⟨hy, h0⟩ (by omega)
    have h4 := (ab_rank_le L mk y).1
    omega
  | succ r =>
    have g := so_gt hg hr
    rw [so_p_s] at g ⊢
    obtain ⟨g1, g2⟩ := so_key hg (r := r) (by omega)
    refine Or.inr ⟨g1.1, g1.2, by omega, fun y hy h0 hle => ?_⟩
    by_cases hc : y ≤ so_k L mk r
    · exact hc
    · have h3 := ab_rank_lt (L := L) (mk := mk) hg.1 (a := so_k L mk r) (b := y) g1 (by omega)
      have h4 := ab_rank_lt (L := L) (mk := mk) hg.1 (a := y) (b := so_k L mk (r + 1)) ⟨hy, h0⟩ (by omega)
      omega
theorem so_n3 (hg : ab_g L mk) {r : Nat} (hr : ((r + 1 : Nat) : Int) < ab_np L mk) : ab_ge L mk (so_k L mk r + 1) (so_k L mk (r + 1)) := by
  obtain ⟨h1, h2⟩ := so_key hg hr
  obtain ⟨g1, g2⟩ := so_key hg (r := r) (by omega)
  have g := so_gt hg hr
  rw [so_p_s] at g
  refine Or.inr ⟨h1.1, h1.2, by omega, fun y hy h0 hle => ?_⟩
  by_cases hc : so_k L mk (r + 1) ≤ y
  · exact hc
  · have h3 := ab_rank_lt (L := L) (mk := mk) hg.1 (a := so_k L mk r) (b := y) g1 (by omega)
    have h4 := ab_rank_lt (L := L) (mk := mk) hg.1 (a := y) (b := so_k L mk (r + 1)) ⟨hy, h0⟩ (by omega)
    omega
theorem so_top (hg : ab_g L mk) {r : Nat} (hr : ((r + 1 : Nat) : Int) = ab_np L mk) : ab_le L mk 499 (so_p L mk (r + 1)) := by
  rw [so_p_s]
  obtain ⟨g1, g2⟩ := so_key hg (r := r) (by omega)
  have h := so_rng hg g1.1
  refine Or.inr ⟨g1.1, g1.2, by omega, fun y hy h0 _ => ?_⟩
  by_cases hc : y ≤ so_k L mk r
  · exact hc
  · have h3 := ab_rank_lt (L := L) (mk := mk) hg.1 (a := so_k L mk r) (b := y) g1 (by omega)
    have h4 := (so_rank_lt hg ⟨hy, h0⟩).2
    omega
/-- the nodes' keys in the order of node() -/
abbrev so_xs (L : List Int) : List Int := (tk_pr 1 L).map Prod.fst
theorem so_xs_len (hg : ab_g L mk) : (so_xs L).length = L.length := by
  rw [List.length_map, tk_pr_len L 1 hg.1]
theorem so_node (hg : ab_g L mk) {n : Nat} (hn : n < L.length) : ∃ x, (so_xs L)[n]? = some x ∧ (∀ w, ab_node L mk (n : Int) w = ab_na L mk w x) ∧ (1 ≤ ab_dep L x ∧ ab_dep L x ≤ 120) ∧ (1 ≤ ab_cnt L x ∧ ab_cnt L x ≤ 120) ∧ (0 ≤ ab_cntp L mk x ∧ ab_cntp L mk x ≤ ab_cnt L x) ∧ ((ab_s x L)[(ab_dep L x - 1).toNat]?).getD (-1) = x ∧ (0 ≤ x ∧ x < 500) ∧ (mk x = 0 ∨ mk x = 1) := by
  have hl := tk_pr_len L 1 hg.1
  obtain ⟨q, hq⟩ : ∃ q, (tk_pr 1 L)[n]? = some q := ⟨_, List.getElem?_eq_getElem (by omega)⟩
  have hx : (so_xs L)[n]? = some q.1 := by
    unfold so_xs
    rw [List.getElem?_map, hq]
    rfl
  have hm : q.1 ∈ L := (tk_pr_perm L 1 hg.1).mem_iff.mp (List.mem_of_getElem? hx)
  have hr := hg.2.1 _ hm
  have hls : (ab_s q.1 L).getLast? = some q.1 := tk_sk_found L (-1) 500 hm hr.1 hr.2
  have hd := ab_dep_le hg q.1
  have hd1 : 1 ≤ ab_dep L q.1 := by
    unfold ab_dep
    cases he : ab_s q.1 L with
    | nil => rw [he] at hls; cases hls
    | cons a b => rw [List.length_cons]; omega
  have hb := ab_bd_in hg hm
  have hc1 : 0 < L.countP (ab_btw (ab_bd L q.1)) := List.countP_pos_iff.mpr ⟨q.1, hm, by simp; omega⟩
  have hc2 : L.countP (ab_btw (ab_bd L q.1)) ≤ L.length := List.countP_le_length
  have hc3 := hg.2.2.1
  refine ⟨q.1, hx, fun w => ?_, ⟨hd1, hd.2⟩, ⟨by unfold ab_cnt; omega, by unfold ab_cnt; omega⟩, ⟨by unfold ab_cntp; omega, ?_⟩, ?_, ⟨by omega, by omega⟩, hg.2.2.2 _⟩
  · unfold ab_node
    rw [Int.toNat_natCast, hq]
  · unfold ab_cntp ab_cnt
    have := List.countP_mono_left (l := L) (p := fun v => ab_btw (ab_bd L q.1) v && decide (mk v = 0)) (q := ab_btw (ab_bd L q.1)) (fun v _ h => (Bool.and_eq_true _ _ ▸ h : _ ∧ _).1)
    omega
  · have e : (ab_dep L q.1 - 1).toNat = (ab_s q.1 L).length - 1 := by unfold ab_dep; omega
    rw [e, ← List.getLast?_eq_getElem?, hls]
    rfl
/-- how many of the first n nodes are marked -/
def so_m (L : List Int) (mk : Int → Int) (n : Nat) : Int := (((so_xs L).take n).countP (fun y => decide (¬ mk y = 0)) : Nat)
theorem so_m_0 : so_m L mk 0 = 0 := rfl
theorem so_m_s (hg : ab_g L mk) {n : Nat} {x : Int} (hx : (so_xs L)[n]? = some x) : so_m L mk (n + 1) = so_m L mk n + mk x := by
  unfold so_m
  rw [List.take_add_one, List.countP_append, hx]
  rcases hg.2.2.2 x with h | h
  · have e : (some x).toList.countP (fun y => decide (¬ mk y = 0)) = 0 := by simp [h]
    rw [e, h]
    omega
  · have e : (some x).toList.countP (fun y => decide (¬ mk y = 0)) = 1 := by simp [h]
    rw [e, h]
    omega
theorem so_m_le (n : Nat) : 0 ≤ so_m L mk n ∧ so_m L mk n ≤ (n : Int) := by
  unfold so_m
  have h1 : ((so_xs L).take n).countP (fun y => decide (¬ mk y = 0)) ≤ ((so_xs L).take n).length := List.countP_le_length
  have h2 : ((so_xs L).take n).length ≤ n := List.length_take_le _ _
  omega
theorem so_m_end (hg : ab_g L mk) : so_m L mk L.length = (L.length : Int) - ab_np L mk := by
  unfold so_m
  rw [List.take_of_length_le (by rw [so_xs_len hg]; exact Nat.le_refl _), (tk_pr_perm L 1 hg.1).countP_eq]
  unfold ab_np
  have h := List.length_eq_countP_add_countP (l := L) (fun y => decide (mk y = 0))
  have e : L.countP (fun y => decide (¬ mk y = 0)) = L.countP (fun a => decide ¬ (decide (mk a = 0)) = true) := by
    refine List.countP_congr (fun y _ => ?_)
    simp
  omega
end SO
