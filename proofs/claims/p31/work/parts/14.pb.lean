/-! a node by its number: what is above it, below it, ahead of it -/
def tk_bp (k : Int) : List Int → Int → Int → Int × Int
  | [], lo, hi => (lo, hi)
  | x :: p, lo, hi => if x = k then (lo, hi) else if k < x then tk_bp k p lo x else tk_bp k p x hi
theorem tk_bp_lt {k x lo hi : Int} {p : List Int} (h : k < x) : tk_bp k (x :: p) lo hi = tk_bp k p lo x := by
  conv => lhs; unfold tk_bp
  rw [if_neg (by omega), if_pos h]
theorem tk_bp_gt {k x lo hi : Int} {p : List Int} (h : x < k) : tk_bp k (x :: p) lo hi = tk_bp k p x hi := by
  conv => lhs; unfold tk_bp
  rw [if_neg (by omega), if_neg (by omega)]
theorem tk_bp_eq {k lo hi : Int} {p : List Int} : tk_bp k (k :: p) lo hi = (lo, hi) := by
  unfold tk_bp
  rw [if_pos rfl]
abbrev tk_tw (dk : Int) (X : List (Int × Int)) : List (Int × Int) := X.takeWhile (fun r => decide (dk < r.2))
theorem tk_tw_app {dk d1 : Int} {L1 : List Int} (h : d1 ≤ dk) : ∀ X : List (Int × Int), tk_tw dk (X ++ tk_pr d1 L1) = tk_tw dk X := by
  intro X
  induction X with
  | nil =>
    cases L1 with
    | nil => rfl
    | cons x xs =>
      rw [List.nil_append, tk_pr_cons]
      unfold tk_tw
      rw [List.takeWhile_cons_of_neg (by simp; omega)]
      rfl
  | cons a X ih =>
    unfold tk_tw at ih ⊢
    rw [List.cons_append, List.takeWhile_cons, List.takeWhile_cons, ih]
theorem tk_tw_all {dk d1 : Int} {L1 L2 : List Int} (h : dk < d1) : tk_tw dk (tk_pr d1 L1 ++ tk_pr d1 L2) = tk_pr d1 L1 ++ tk_pr d1 L2 := by
  have h9 : ∀ a ∈ tk_pr d1 L1 ++ tk_pr d1 L2, (fun r : Int × Int => decide (dk < r.2)) a = true := by
    intro a ha
    rcases List.mem_append.mp ha with h1 | h1
    · have := tk_pr_dep _ _ _ h1; simp; omega
    · have := tk_pr_dep _ _ _ h1; simp; omega
  have := List.takeWhile_append_of_pos (l₂ := []) h9
  simpa [tk_tw] using this
theorem tk_bp_le {k : Int} : ∀ (L : List Int) (lo hi : Int), tk_in lo hi L → lo < k → k < hi → (lo ≤ (tk_bp k (tk_sk k L lo hi) lo hi).1 ∧ (tk_bp k (tk_sk k L lo hi) lo hi).1 < k) ∧ (k < (tk_bp k (tk_sk k L lo hi) lo hi).2 ∧ (tk_bp k (tk_sk k L lo hi) lo hi).2 ≤ hi) := by
  intro L
  refine tk_ind (P := fun L => ∀ (lo hi : Int), tk_in lo hi L → lo < k → k < hi → (lo ≤ (tk_bp k (tk_sk k L lo hi) lo hi).1 ∧ (tk_bp k (tk_sk k L lo hi) lo hi).1 < k) ∧ (k < (tk_bp k (tk_sk k L lo hi) lo hi).2 ∧ (tk_bp k (tk_sk k L lo hi) lo hi).2 ≤ hi)) ?_ ?_ L
  · intro lo hi _ h1 h2
    exact ⟨⟨Int.le_refl _, h1⟩, h2, Int.le_refl _⟩
  · intro x xs hL hR lo hi h h1 h2
    have hx := h.hd
    rcases Int.lt_trichotomy k x with hk | hk | hk
    · rw [tk_sk_lt hx hk, tk_bp_lt hk]
      have := hL lo x h.L h1 hk
      omega
    · subst hk
      rw [tk_sk_eq hx, tk_bp_eq]
      exact ⟨⟨Int.le_refl _, h1⟩, h2, Int.le_refl _⟩
    · rw [tk_sk_gt hx hk, tk_bp_gt hk]
      have := hR x hi h.R hk h2
      omega
theorem tk_at {x d : Int} {xs : List Int} {i : Nat} {k dk : Int} (h : (tk_pr d (x :: xs))[i]? = some (k, dk)) :
    (i = 0 ∧ k = x ∧ dk = d) ∨ (∃ j, i = j + 1 ∧ j < (tk_pr (d + 1) (tk_L x xs)).length ∧ (tk_pr (d + 1) (tk_L x xs))[j]? = some (k, dk) ∧ k ∈ tk_L x xs ∧ k < x) ∨
    (∃ j, i = (tk_pr (d + 1) (tk_L x xs)).length + 1 + j ∧ (tk_pr (d + 1) (tk_R x xs))[j]? = some (k, dk) ∧ k ∈ tk_R x xs ∧ x < k) := by
  rw [tk_pr_cons] at h
  cases i with
  | zero =>
    left
    simp at h
    exact ⟨rfl, h.1.symm, h.2.symm⟩
  | succ i =>
    right
    rw [List.getElem?_cons_succ] at h
    by_cases hi : i < (tk_pr (d + 1) (tk_L x xs)).length
    · left
      rw [List.getElem?_append_left hi] at h
      have hm := tk_pr_mem _ _ _ (List.mem_of_getElem? h)
      exact ⟨i, rfl, hi, h, hm, (tk_mL.mp hm).2⟩
    · right
      rw [List.getElem?_append_right (by omega)] at h
      have hm := tk_pr_mem _ _ _ (List.mem_of_getElem? h)
      exact ⟨_, by omega, h, hm, (tk_mR.mp hm).2⟩
theorem tk_dropL {x d : Int} {xs : List Int} {j : Nat} (hj : j < (tk_pr (d + 1) (tk_L x xs)).length) : (tk_pr d (x :: xs)).drop (j + 1 + 1) = (tk_pr (d + 1) (tk_L x xs)).drop (j + 1) ++ tk_pr (d + 1) (tk_R x xs) := by
  rw [tk_pr_cons, List.drop_succ_cons, List.drop_append_of_le_length (by omega)]
theorem tk_dropR {x d : Int} {xs : List Int} {j : Nat} : (tk_pr d (x :: xs)).drop ((tk_pr (d + 1) (tk_L x xs)).length + 1 + j) = (tk_pr (d + 1) (tk_R x xs)).drop j := by
  rw [tk_pr_cons, show (tk_pr (d + 1) (tk_L x xs)).length + 1 + j = ((tk_pr (d + 1) (tk_L x xs)).length + j) + 1 by omega, List.drop_succ_cons, List.drop_append]
  simp
/-- the nodes of a subtree are those with keys between the bounds of its root -/
theorem tk_sub : ∀ (L : List Int) (d lo hi : Int), tk_in lo hi L → L.Nodup → ∀ (i : Nat) (k dk : Int), (tk_pr d L)[i]? = some (k, dk) →
    (((k, dk) :: tk_tw dk ((tk_pr d L).drop (i + 1))).map Prod.fst).Perm (L.filter (fun y => decide ((tk_bp k (tk_sk k L lo hi) lo hi).1 < y ∧ y < (tk_bp k (tk_sk k L lo hi) lo hi).2))) := by
  intro L
  refine tk_ind (P := fun L => ∀ (d lo hi : Int), tk_in lo hi L → L.Nodup → ∀ (i : Nat) (k dk : Int), (tk_pr d L)[i]? = some (k, dk) →
    (((k, dk) :: tk_tw dk ((tk_pr d L).drop (i + 1))).map Prod.fst).Perm (L.filter (fun y => decide ((tk_bp k (tk_sk k L lo hi) lo hi).1 < y ∧ y < (tk_bp k (tk_sk k L lo hi) lo hi).2)))) ?_ ?_ L
  · intro d lo hi _ _ i k dk h
    cases h
  · intro x xs hL hR d lo hi h hn i k dk hi9
    have hx := h.hd
    rcases tk_at hi9 with ⟨rfl, rfl, rfl⟩ | ⟨j, rfl, hj, he, hm, hk⟩ | ⟨j, rfl, he, hm, hk⟩
    · rw [tk_sk_eq hx, tk_bp_eq, List.filter_eq_self.mpr (fun y hy => by simpa using h y hy)]
      have e : tk_tw dk ((tk_pr dk (k :: xs)).drop (0 + 1)) = tk_pr (dk + 1) (tk_L k xs) ++ tk_pr (dk + 1) (tk_R k xs) := by
        rw [tk_pr_cons]
        exact tk_tw_all (by omega)
      rw [e, ← tk_pr_cons]
      exact tk_pr_perm _ _ hn
    · have hd := tk_pr_dep _ _ _ (List.mem_of_getElem? he)
      have hk1 := h.L k hm
      rw [tk_dropL hj, tk_tw_app hd, tk_sk_lt hx hk, tk_bp_lt hk]
      have hb := tk_bp_le (tk_L x xs) lo x h.L hk1.1 hk1.2
      refine (hL (d + 1) lo x h.L (tk_nL hn) j k dk he).trans ?_
      rw [List.filter_cons_of_neg (by simp; omega), List.filter_filter]
      rw [List.filter_congr (q := fun y => decide ((tk_bp k (tk_sk k (tk_L x xs) lo x) lo x).1 < y ∧ y < (tk_bp k (tk_sk k (tk_L x xs) lo x) lo x).2)) (fun y _ => by
        by_cases q : (tk_bp k (tk_sk k (tk_L x xs) lo x) lo x).1 < y ∧ y < (tk_bp k (tk_sk k (tk_L x xs) lo x) lo x).2
        · simp only [decide_eq_true q, Bool.true_and]; simp; omega
        · simp only [decide_eq_false q, Bool.false_and])]
    · have hd := tk_pr_dep _ _ _ (List.mem_of_getElem? he)
      have hk1 := h.R k hm
      rw [show (tk_pr (d + 1) (tk_L x xs)).length + 1 + j + 1 = (tk_pr (d + 1) (tk_L x xs)).length + 1 + (j + 1) by omega, tk_dropR, tk_sk_gt hx hk, tk_bp_gt hk]
      have hb := tk_bp_le (tk_R x xs) x hi h.R hk1.1 hk1.2
      refine (hR (d + 1) x hi h.R (tk_nR hn) j k dk he).trans ?_
      rw [List.filter_cons_of_neg (by simp; omega), List.filter_filter]
      rw [List.filter_congr (q := fun y => decide ((tk_bp k (tk_sk k (tk_R x xs) x hi) x hi).1 < y ∧ y < (tk_bp k (tk_sk k (tk_R x xs) x hi) x hi).2)) (fun y _ => by
        by_cases q : (tk_bp k (tk_sk k (tk_R x xs) x hi) x hi).1 < y ∧ y < (tk_bp k (tk_sk k (tk_R x xs) x hi) x hi).2
        · simp only [decide_eq_true q, Bool.true_and]; simp; omega
        · simp only [decide_eq_false q, Bool.false_and])]
theorem tk_sk_ne {k lo hi : Int} {L : List Int} (h : tk_in lo hi L) (hm : k ∈ L) : tk_sk k L lo hi ≠ [] := fun e => by
  have := tk_sk_nil h e
  subst this
  exact absurd hm List.not_mem_nil
theorem tk_cntL {x bb : Int} {xs : List Int} (h : bb < x) : (tk_L x xs).countP (fun y => decide (y ≤ bb)) = xs.countP (fun y => decide (y ≤ bb)) := by
  show (xs.filter (fun y => decide (y < x))).countP _ = _
  rw [List.countP_filter]
  refine List.countP_congr (fun y _ => ?_)
  simp
  omega
/-- the number of a node -/
theorem tk_idx : ∀ (L : List Int) (d lo hi : Int), tk_in lo hi L → L.Nodup → ∀ (i : Nat) (k dk : Int), (tk_pr d L)[i]? = some (k, dk) →
    i + (tk_sk k L lo hi).dropLast.countP (fun v => decide (v < k)) + 1 = (tk_sk k L lo hi).length + L.countP (fun y => decide (y ≤ (tk_bp k (tk_sk k L lo hi) lo hi).1)) := by
  intro L
  refine tk_ind (P := fun L => ∀ (d lo hi : Int), tk_in lo hi L → L.Nodup → ∀ (i : Nat) (k dk : Int), (tk_pr d L)[i]? = some (k, dk) →
    i + (tk_sk k L lo hi).dropLast.countP (fun v => decide (v < k)) + 1 = (tk_sk k L lo hi).length + L.countP (fun y => decide (y ≤ (tk_bp k (tk_sk k L lo hi) lo hi).1))) ?_ ?_ L
  · intro d lo hi _ _ i k dk h
    cases h
  · intro x xs hL hR d lo hi h hn i k dk hi9
    have hx := h.hd
    rcases tk_at hi9 with ⟨rfl, rfl, rfl⟩ | ⟨j, rfl, hj, he, hm, hk⟩ | ⟨j, rfl, he, hm, hk⟩
    · rw [tk_sk_eq hx, tk_bp_eq]
      have : (k :: xs).countP (fun y => decide (y ≤ lo)) = 0 := List.countP_eq_zero.mpr (fun y hy => by have := h y hy; simp; omega)
      rw [this]
      simp
    · have hk1 := h.L k hm
      have ih := hL (d + 1) lo x h.L (tk_nL hn) j k dk he
      have hb := tk_bp_le (tk_L x xs) lo x h.L hk1.1 hk1.2
      rw [tk_sk_lt hx hk, List.dropLast_cons_of_ne_nil (tk_sk_ne h.L hm), List.countP_cons_of_neg (by simp; omega), List.length_cons]
      rw [tk_bp_lt hk, List.countP_cons_of_neg (by simp; omega)]
      have e := tk_cntL (xs := xs) (x := x) (bb := (tk_bp k (tk_sk k (tk_L x xs) lo x) lo x).1) (by omega)
      rw [← e]
      omega
    · have hk1 := h.R k hm
      have ih := hR (d + 1) x hi h.R (tk_nR hn) j k dk he
      have hb := tk_bp_le (tk_R x xs) x hi h.R hk1.1 hk1.2
      rw [tk_sk_gt hx hk, List.dropLast_cons_of_ne_nil (tk_sk_ne h.R hm), List.countP_cons_of_pos (by simp; omega), List.length_cons]
      rw [tk_bp_gt hk, List.countP_cons_of_pos (by simp; omega)]
      rw [← (tk_split hn).countP_eq, List.countP_append]
      have e : (tk_L x xs).countP (fun y => decide (y ≤ (tk_bp k (tk_sk k (tk_R x xs) x hi) x hi).1)) = (tk_L x xs).length := List.countP_eq_length.mpr (fun y hy => by have := (tk_mL.mp hy).2; simp; omega)
      have e2 := tk_pr_len (tk_L x xs) (d + 1) (tk_nL hn)
      rw [e]
      omega
/-- the nodes above a node: the nearest of each depth ahead of it -/
theorem tk_anc : ∀ (L : List Int) (d lo hi : Int), tk_in lo hi L → L.Nodup → ∀ (i : Nat) (k dk : Int), (tk_pr d L)[i]? = some (k, dk) → ∀ (j : Nat) (v : Int), (tk_sk k L lo hi)[j]? = some v →
    (((tk_pr d L).take (i + 1)).filter (fun r => decide (r.2 = d + (j : Int)))).getLast? = some (v, d + (j : Int)) := by
  intro L
  refine tk_ind (P := fun L => ∀ (d lo hi : Int), tk_in lo hi L → L.Nodup → ∀ (i : Nat) (k dk : Int), (tk_pr d L)[i]? = some (k, dk) → ∀ (j : Nat) (v : Int), (tk_sk k L lo hi)[j]? = some v →
    (((tk_pr d L).take (i + 1)).filter (fun r => decide (r.2 = d + (j : Int)))).getLast? = some (v, d + (j : Int))) ?_ ?_ L
  · intro d lo hi _ _ i k dk h
    cases h
  · intro x xs hL hR d lo hi h hn i k dk hi9 j v hv
    have hx := h.hd
    have nil1 : ∀ (X : List (Int × Int)), (∀ r ∈ X, d + 1 ≤ r.2) → X.filter (fun r => decide (r.2 = d)) = [] := by
      intro X hX
      exact List.filter_eq_nil_iff.mpr (fun r hr => by have := hX r hr; simp; omega)
    rcases tk_at hi9 with ⟨rfl, rfl, rfl⟩ | ⟨m, rfl, hm9, he, hm, hk⟩ | ⟨m, rfl, he, hm, hk⟩
    · rw [tk_sk_eq hx] at hv
      cases j with
      | zero =>
        have : k = v := by simpa using hv
        subst this
        rw [tk_pr_cons]
        simp
      | succ j => simp at hv
    · rw [tk_sk_lt hx hk] at hv
      rw [tk_pr_cons, List.take_succ_cons, List.take_append_of_le_length (by omega)]
      have dep : ∀ r ∈ (tk_pr (d + 1) (tk_L x xs)).take (m + 1), d + 1 ≤ r.2 := fun r hr => tk_pr_dep _ _ _ (List.mem_of_mem_take hr)
      cases j with
      | zero =>
        have : x = v := by simpa using hv
        subst this
        rw [List.filter_cons_of_pos (by simp)]
        simp only [Int.ofNat_zero, Int.natCast_zero, Int.add_zero]
        rw [nil1 _ dep]
        rfl
      | succ j =>
        rw [List.getElem?_cons_succ] at hv
        have ih := hL (d + 1) lo x h.L (tk_nL hn) m k dk he j v hv
        rw [List.filter_cons_of_neg (by simp; omega), show d + ((j + 1 : Nat) : Int) = d + 1 + (j : Int) by omega]
        exact ih
    · rw [tk_sk_gt hx hk] at hv
      rw [tk_pr_cons, show (tk_pr (d + 1) (tk_L x xs)).length + 1 + m + 1 = ((tk_pr (d + 1) (tk_L x xs)).length + (m + 1)) + 1 by omega, List.take_succ_cons, List.take_append, List.take_of_length_le (by omega), Nat.add_sub_cancel_left]
      have dep : ∀ r ∈ tk_pr (d + 1) (tk_L x xs) ++ (tk_pr (d + 1) (tk_R x xs)).take (m + 1), d + 1 ≤ r.2 := fun r hr => by
        rcases List.mem_append.mp hr with hr | hr
        · exact tk_pr_dep _ _ _ hr
        · exact tk_pr_dep _ _ _ (List.mem_of_mem_take hr)
      cases j with
      | zero =>
        have : x = v := by simpa using hv
        subst this
        rw [List.filter_cons_of_pos (by simp)]
        simp only [Int.ofNat_zero, Int.natCast_zero, Int.add_zero]
        rw [nil1 _ dep]
        rfl
      | succ j =>
        rw [List.getElem?_cons_succ] at hv
        have ih := hR (d + 1) x hi h.R (tk_nR hn) m k dk he j v hv
        rw [List.filter_cons_of_neg (by simp; omega), show d + ((j + 1 : Nat) : Int) = d + 1 + (j : Int) by omega, List.filter_append, List.getLast?_append, ih]
        rfl
/-- where a new node comes -/
def tk_place (key k dk : Int) (i : Nat) (P : List (Int × Int)) : Nat := if key < k then i + 1 else i + 1 + (tk_tw dk (P.drop (i + 1))).length
theorem tk_tw_le (dk : Int) (X : List (Int × Int)) : (tk_tw dk X).length ≤ X.length := List.Sublist.length_le (List.takeWhile_sublist _)
theorem tk_ins : ∀ (L : List Int) (d lo hi key : Int), tk_in lo hi L → L.Nodup → key ∉ L → lo < key → key < hi → ∀ (i : Nat) (k dk : Int), (tk_pr d L)[i]? = some (k, dk) → (tk_sk key L lo hi).getLast? = some k →
    tk_pr d (L ++ [key]) = (tk_pr d L).take (tk_place key k dk i (tk_pr d L)) ++ (key, dk + 1) :: (tk_pr d L).drop (tk_place key k dk i (tk_pr d L)) := by
  intro L
  refine tk_ind (P := fun L => ∀ (d lo hi key : Int), tk_in lo hi L → L.Nodup → key ∉ L → lo < key → key < hi → ∀ (i : Nat) (k dk : Int), (tk_pr d L)[i]? = some (k, dk) → (tk_sk key L lo hi).getLast? = some k →
    tk_pr d (L ++ [key]) = (tk_pr d L).take (tk_place key k dk i (tk_pr d L)) ++ (key, dk + 1) :: (tk_pr d L).drop (tk_place key k dk i (tk_pr d L))) ?_ ?_ L
  · intro d lo hi key _ _ _ _ _ i k dk h
    cases h
  · intro x xs hL hR d lo hi key h hn hkey h1 h2 i k dk hi9 hlast
    have hx := h.hd
    have hne : key ≠ x := fun e => hkey (e ▸ List.mem_cons_self)
    have one : ∀ d9 : Int, tk_pr d9 [key] = [(key, d9)] := fun d9 => rfl
    rcases Int.lt_trichotomy key x with hk | hk | hk
    · -- to the left
      have eL : tk_L x (xs ++ [key]) = tk_L x xs ++ [key] := by simp [tk_L, hk]
      have eR : tk_R x (xs ++ [key]) = tk_R x xs := by simp [tk_R]; omega
      rw [List.cons_append, tk_pr_cons, eL, eR]
      rw [tk_sk_lt hx hk, List.getLast?_cons] at hlast
      cases hs : (tk_sk key (tk_L x xs) lo x).getLast? with
      | none =>
        rw [hs] at hlast
        have hxk : x = k := by simpa using hlast
        subst hxk
        have e0 : tk_L x xs = [] := tk_sk_nil h.L (List.getLast?_eq_none_iff.mp hs)
        rcases tk_at hi9 with ⟨rfl, _, rfl⟩ | ⟨m, rfl, hm9, he, hm, hk9⟩ | ⟨m, rfl, he, hm, hk9⟩
        · rw [tk_pr_cons, e0]
          unfold tk_place
          rw [if_pos hk]
          rfl
        · omega
        · omega
      | some z =>
        rw [hs] at hlast
        have hzk : z = k := by simpa using hlast
        subst hzk
        have hz := (tk_sk_mem _ _ _ _ (List.mem_of_getLast? hs)).2
        rcases tk_at hi9 with ⟨rfl, e9, rfl⟩ | ⟨m, rfl, hm9, he, hm, hk9⟩ | ⟨m, rfl, he, hm, hk9⟩
        · omega
        · have hd : d + 1 ≤ dk := tk_pr_dep _ _ _ (List.mem_of_getElem? he)
          have ih := hL (d + 1) lo x key h.L (tk_nL hn) (fun q => hkey (List.mem_cons_of_mem _ (tk_mL.mp q).1)) h1 hk m z dk he hs
          have ep : tk_place key z dk (m + 1) (tk_pr d (x :: xs)) = tk_place key z dk m (tk_pr (d + 1) (tk_L x xs)) + 1 := by
            unfold tk_place
            rw [tk_dropL hm9, tk_tw_app hd]
            split <;> omega
          have hle : tk_place key z dk m (tk_pr (d + 1) (tk_L x xs)) ≤ (tk_pr (d + 1) (tk_L x xs)).length := by
            unfold tk_place
            have := tk_tw_le dk ((tk_pr (d + 1) (tk_L x xs)).drop (m + 1))
            rw [List.length_drop] at this
            split <;> omega
          rw [ep, ih, tk_pr_cons, List.take_succ_cons, List.drop_succ_cons, List.take_append_of_le_length hle, List.drop_append_of_le_length hle]
          simp only [List.cons_append, List.append_assoc]
        · omega
    · exact absurd hk hne
    · -- to the right
      have eL : tk_L x (xs ++ [key]) = tk_L x xs := by simp [tk_L]; omega
      have eR : tk_R x (xs ++ [key]) = tk_R x xs ++ [key] := by simp [tk_R, hk]
      rw [List.cons_append, tk_pr_cons, eL, eR]
      rw [tk_sk_gt hx hk, List.getLast?_cons] at hlast
      cases hs : (tk_sk key (tk_R x xs) x hi).getLast? with
      | none =>
        rw [hs] at hlast
        have hxk : x = k := by simpa using hlast
        subst hxk
        have e0 : tk_R x xs = [] := tk_sk_nil h.R (List.getLast?_eq_none_iff.mp hs)
        rcases tk_at hi9 with ⟨rfl, _, rfl⟩ | ⟨m, rfl, hm9, he, hm, hk9⟩ | ⟨m, rfl, he, hm, hk9⟩
        · have ed : (tk_pr dk (x :: xs)).drop (0 + 1) = tk_pr (dk + 1) (tk_L x xs) ++ tk_pr (dk + 1) (tk_R x xs) := by rw [tk_pr_cons]; rfl
          have ep : tk_place key x dk 0 (tk_pr dk (x :: xs)) = (tk_pr dk (x :: xs)).length := by
            unfold tk_place
            rw [if_neg (by omega), ed, tk_tw_all (by omega), tk_pr_cons, List.length_cons]
            omega
          rw [ep, List.take_length, List.drop_length, e0, tk_pr_cons, e0, List.nil_append, one]
          simp [tk_pr_nil]
        · omega
        · omega
      | some z =>
        rw [hs] at hlast
        have hzk : z = k := by simpa using hlast
        subst hzk
        have hz := (tk_sk_mem _ _ _ _ (List.mem_of_getLast? hs)).2
        rcases tk_at hi9 with ⟨rfl, e9, rfl⟩ | ⟨m, rfl, hm9, he, hm, hk9⟩ | ⟨m, rfl, he, hm, hk9⟩
        · omega
        · omega
        · have ih := hR (d + 1) x hi key h.R (tk_nR hn) (fun q => hkey (List.mem_cons_of_mem _ (tk_mR.mp q).1)) hk h2 m z dk he hs
          have ep : tk_place key z dk ((tk_pr (d + 1) (tk_L x xs)).length + 1 + m) (tk_pr d (x :: xs)) = ((tk_pr (d + 1) (tk_L x xs)).length + tk_place key z dk m (tk_pr (d + 1) (tk_R x xs))) + 1 := by
            unfold tk_place
            rw [show (tk_pr (d + 1) (tk_L x xs)).length + 1 + m + 1 = (tk_pr (d + 1) (tk_L x xs)).length + 1 + (m + 1) by omega, tk_dropR]
            split <;> omega
          have et : (tk_pr (d + 1) (tk_L x xs)).take ((tk_pr (d + 1) (tk_L x xs)).length + tk_place key z dk m (tk_pr (d + 1) (tk_R x xs))) = tk_pr (d + 1) (tk_L x xs) := List.take_of_length_le (by omega)
          have ed : (tk_pr (d + 1) (tk_L x xs)).drop ((tk_pr (d + 1) (tk_L x xs)).length + tk_place key z dk m (tk_pr (d + 1) (tk_R x xs))) = [] := List.drop_eq_nil_of_le (by omega)
          rw [ep, ih, tk_pr_cons, List.take_succ_cons, List.drop_succ_cons, List.take_append, List.drop_append, et, ed, Nat.add_sub_cancel_left]
          simp only [List.cons_append, List.append_assoc, List.nil_append]
