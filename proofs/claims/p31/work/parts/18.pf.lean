/-! a tree in the reference: the list of its keys in the order in which they came -/
def ab_mT (z : Nat → Int) (t : Nat) (L : List Int) (mk : Int → Int) : Prop := z t = (L.length : Int) ∧ ∀ (i : Nat) (x : Int), L[i]? = some x → z (t + 1 + i) = x ∧ z (t + 121 + i) = mk x
theorem tk_sk_len {key : Int} : ∀ (L : List Int) (lo hi : Int), (tk_sk key L lo hi).length ≤ L.length := by
  intro L
  induction L with
  | nil => intro lo hi; exact Nat.le_refl _
  | cons y ys ih =>
    intro lo hi
    simp only [tk_sk]
    have a := ih lo hi
    have b := ih lo y
    have c := ih y hi
    split
    · split
      · simp
      · split <;> simp only [List.length_cons] <;> omega
    · simp only [List.length_cons]; omega
theorem tk_sk_unc {k : Int} : ∀ (L : List Int) (lo hi x : Int) (S : List Int), tk_sk k L lo hi = x :: S → (lo < x ∧ x < hi) ∧ (x = k → S = []) ∧ (k < x → ∃ L2, S = tk_sk k L2 lo x) ∧ (x < k → ∃ L2, S = tk_sk k L2 x hi) := by
  intro L
  induction L with
  | nil => intro lo hi x S h; cases h
  | cons y ys ih =>
    intro lo hi x S h
    simp only [tk_sk] at h
    by_cases hy : lo < y ∧ y < hi
    · rw [if_pos hy] at h
      by_cases he : y = k
      · rw [if_pos he] at h
        injection h with h1 h2
        subst h1
        exact ⟨hy, fun _ => h2.symm, fun q => by omega, fun q => by omega⟩
      · rw [if_neg he] at h
        by_cases hk : k < y
        · rw [if_pos hk] at h
          injection h with h1 h2
          subst h1
          exact ⟨hy, fun q => absurd q he, fun _ => ⟨ys, h2.symm⟩, fun q => by omega⟩
        · rw [if_neg hk] at h
          injection h with h1 h2
          subst h1
          exact ⟨hy, fun q => absurd q he, fun q => by omega, fun _ => ⟨ys, h2.symm⟩⟩
    · rw [if_neg hy] at h
      exact ih lo hi x S h
theorem tk_bp_mem {k : Int} : ∀ (p : List Int) (lo hi : Int), (tk_bp k p lo hi).1 = lo ∨ (tk_bp k p lo hi).1 ∈ p := by
  intro p
  induction p with
  | nil => intro lo hi; exact Or.inl rfl
  | cons x p ih =>
    intro lo hi
    rcases Int.lt_trichotomy k x with h | h | h
    · rw [tk_bp_lt h]
      exact (ih lo x).imp id (fun q => List.mem_cons_of_mem _ q)
    · subst h
      rw [tk_bp_eq]
      exact Or.inl rfl
    · rw [tk_bp_gt h]
      rcases ih x hi with q | q
      · rw [q]; exact Or.inr List.mem_cons_self
      · exact Or.inr (List.mem_cons_of_mem _ q)
section PX5
variable {z : Nat → Int} {t : Nat} {L : List Int} {mk : Int → Int}
theorem ab_mrow (hm : ab_mT z t L mk) (hg : ab_g L mk) {i : Nat} {x : Int} (h : L[i]? = some x) : z (t + 1 + i) = x ∧ z (t + 121 + i) = mk x ∧ x ∈ L ∧ (-1 < x ∧ x < 500) ∧ (mk x = 0 ∨ mk x = 1) ∧ i < L.length :=
  ⟨(hm.2 i x h).1, (hm.2 i x h).2, List.mem_of_getElem? h, hg.2.1 x (List.mem_of_getElem? h), hg.2.2.2 x, (List.getElem?_eq_some_iff.mp h).1⟩
theorem ab_nodup_ix (hg : ab_g L mk) {i j : Nat} {x : Int} (h1 : L[i]? = some x) (h2 : L[j]? = some x) : i = j := (List.getElem?_inj (List.getElem?_eq_some_iff.mp h1).1 hg.1).mp (h1.trans h2.symm)
theorem ab_dep_le (hg : ab_g L mk) (y : Int) : 0 ≤ ab_dep L y ∧ ab_dep L y ≤ 120 := by
  have := tk_sk_len (key := y) L (-1) 500
  have := hg.2.2.1
  unfold ab_dep ab_s
  omega
end PX5
