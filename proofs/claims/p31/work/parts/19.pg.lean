/-! numbers of nodes, neighbours, ranks in the reference -/
theorem ab_cnt_le : ∀ (L : List Int) (b : Int), L.Nodup → (∀ y ∈ L, -1 < y) → L.countP (fun y => decide (y ≤ b)) = L.countP (fun y => decide (-1 < y ∧ y < b)) + (if b ∈ L then 1 else 0) := by
  intro L
  induction L with
  | nil => intro b _ _; simp
  | cons x xs ih =>
    intro b hn h
    have hx := h x List.mem_cons_self
    have hn2 := List.nodup_cons.mp hn
    have := ih b hn2.2 (fun y hy => h y (List.mem_cons_of_mem _ hy))
    rw [List.countP_cons, List.countP_cons, this]
    by_cases he : b = x
    · subst he
      rw [if_neg hn2.1]
      simp
    · have e : (b ∈ x :: xs) ↔ b ∈ xs := by simp [he]
      simp only [e]
      by_cases hlt : x < b
      · have h1 : decide (x ≤ b) = true := by simp; omega
        have h2 : decide (-1 < x ∧ x < b) = true := by simp; omega
        rw [h1, h2]
        simp only [if_true]
        omega
      · have h1 : decide (x ≤ b) = false := by simp; omega
        have h2 : decide (-1 < x ∧ x < b) = false := by simp; omega
        rw [h1, h2]
        simp
def ab_na (L : List Int) (mk : Int → Int) (w x : Int) : Int := if w = 0 then x else if w = 1 then mk x else if w = 2 then ab_dep L x else if w = 3 then ab_cnt L x else ab_cntp L mk x
/-- what node() tells of a tree -/
def ab_node (L : List Int) (mk : Int → Int) (node w : Int) : Int := match (tk_pr 1 L)[node.toNat]? with
  | none => -1
  | some r => ab_na L mk w r.1
section PX5
variable {z : Nat → Int} {t : Nat} {L : List Int} {mk : Int → Int}
theorem ab_bd_in (hg : ab_g L mk) {k : Int} (hk : k ∈ L) : (-1 ≤ (ab_bd L k).1 ∧ (ab_bd L k).1 < k) ∧ (k < (ab_bd L k).2 ∧ (ab_bd L k).2 ≤ 500) := by
  have h := hg.2.1 k hk
  exact tk_bp_le L (-1) 500 hg.2.1 h.1 h.2
theorem ab_ix (hg : ab_g L mk) {x : Int} (hx : x ∈ L) : ∃ (i : Nat) (dx : Int), (tk_pr 1 L)[i]? = some (x, dx) := by
  have h : x ∈ (tk_pr 1 L).map Prod.fst := (tk_pr_perm L 1 hg.1).mem_iff.mpr hx
  obtain ⟨r, hr, rfl⟩ := List.mem_map.mp h
  obtain ⟨i, hi⟩ := List.getElem?_of_mem hr
  exact ⟨i, r.2, hi⟩
/-- the key with a rank -/
def ab_kat (L : List Int) (mk : Int → Int) (rk r : Int) : Prop := (r = -1 ∧ ∀ y ∈ L, mk y = 0 → ab_rank L mk y ≠ rk) ∨ (r ∈ L ∧ mk r = 0 ∧ ab_rank L mk r = rk)
theorem ab_rank_s : ∀ (L : List Int) (mk : Int → Int) (q : Int), L.Nodup → ab_rank L mk (q + 1) = ab_rank L mk q + (if q ∈ L ∧ mk q = 0 then 1 else 0) := by
  intro L
  induction L with
  | nil => intro mk q _; simp [ab_rank]
  | cons x xs ih =>
    intro mk q hn
    have hn2 := List.nodup_cons.mp hn
    have ih1 := ih mk q hn2.2
    unfold ab_rank at ih1 ⊢
    rw [List.countP_cons, List.countP_cons]
    push_cast
    rw [ih1]
    by_cases he : q = x
    · subst he
      have f1 : ¬ (q ∈ xs ∧ mk q = 0) := fun h => hn2.1 h.1
      have f2 : (q ∈ q :: xs ∧ mk q = 0) ↔ mk q = 0 := by simp
      have f3 : decide (mk q = 0 ∧ q < q) = false := by simp
      have f4 : decide (mk q = 0 ∧ q < q + 1) = decide (mk q = 0) := by
        apply decide_eq_decide.mpr
        omega
      rw [f3, f4]
      simp only [f1, f2]
      by_cases hz : mk q = 0 <;> simp [hz]
    · have e : (q ∈ x :: xs ∧ mk q = 0) ↔ (q ∈ xs ∧ mk q = 0) := by simp [he]
      simp only [e]
      have h1 : decide (mk x = 0 ∧ x < q + 1) = decide (mk x = 0 ∧ x < q) := by
        apply decide_eq_decide.mpr
        omega
      rw [h1]
      omega
theorem ab_rank_mono (L : List Int) (mk : Int → Int) (hn : L.Nodup) (a : Int) (n : Nat) : ab_rank L mk a ≤ ab_rank L mk (a + (n : Int)) := by
  induction n with
  | zero => simp
  | succ n ih =>
    have := ab_rank_s L mk (a + (n : Int)) hn
    rw [show a + ((n + 1 : Nat) : Int) = a + (n : Int) + 1 by omega, this]
    split <;> omega
theorem ab_rank_lt {L : List Int} {mk : Int → Int} (hn : L.Nodup) {a b : Int} (ha : a ∈ L ∧ mk a = 0) (hab : a < b) : ab_rank L mk a < ab_rank L mk b := by
  have h1 := ab_rank_s L mk a hn
  rw [if_pos ha] at h1
  have h2 := ab_rank_mono L mk hn (a + 1) (b - (a + 1)).toNat
  rw [show a + 1 + ((b - (a + 1)).toNat : Int) = b by omega] at h2
  omega
theorem ab_kat_un (hn : L.Nodup) {rk r1 r2 : Int} (h1 : ab_kat L mk rk r1) (h2 : ab_kat L mk rk r2) : r1 = r2 := by
  rcases h1 with ⟨a1, a2⟩ | ⟨a1, a2, a3⟩ <;> rcases h2 with ⟨b1, b2⟩ | ⟨b1, b2, b3⟩
  · omega
  · exact absurd b3 (a2 _ b1 b2)
  · exact absurd a3 (b2 _ a1 a2)
  · rcases Int.lt_trichotomy r1 r2 with h | h | h
    · have := ab_rank_lt hn ⟨a1, a2⟩ h; omega
    · exact h
    · have := ab_rank_lt hn ⟨b1, b2⟩ h; omega
theorem ab_rank_le (L : List Int) (mk : Int → Int) (q : Int) : 0 ≤ ab_rank L mk q ∧ ab_rank L mk q ≤ (L.length : Int) := by
  unfold ab_rank
  have := List.countP_le_length (p := fun y => decide (mk y = 0 ∧ y < q)) (l := L)
  omega
end PX5
