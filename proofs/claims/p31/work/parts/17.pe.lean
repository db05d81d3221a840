/-! the tree in the class: what is told of it -/
def ab_np (L : List Int) (mk : Int → Int) : Int := (L.countP (fun y => decide (mk y = 0)) : Nat)
def ab_dep (L : List Int) (y : Int) : Int := ((ab_s y L).length : Nat)
def ab_dmax (L : List Int) : Int := L.foldl (fun g y => max g (ab_dep L y)) 0
def ab_dsum (L : List Int) : Int := L.foldl (fun g y => g + ab_dep L y) 0
def ab_dsump (L : List Int) (mk : Int → Int) : Int := L.foldl (fun g y => if mk y = 0 then g + ab_dep L y else g) 0
abbrev ab_bd (L : List Int) (y : Int) : Int × Int := tk_bp y (ab_s y L) (-1) 500
abbrev ab_btw (b : Int × Int) (y : Int) : Bool := decide (b.1 < y ∧ y < b.2)
def ab_cnt (L : List Int) (y : Int) : Int := (L.countP (ab_btw (ab_bd L y)) : Nat)
def ab_cntp (L : List Int) (mk : Int → Int) (y : Int) : Int := (L.countP (fun v => ab_btw (ab_bd L y) v && decide (mk v = 0)) : Nat)
def ab_lvs (L : List Int) : Int := (L.countP (fun y => decide (ab_cnt L y = 1)) : Nat)
def ab_rank (L : List Int) (mk : Int → Int) (key : Int) : Int := (L.countP (fun y => decide (mk y = 0 ∧ y < key)) : Nat)
def ab_le (L : List Int) (mk : Int → Int) (lim r : Int) : Prop := (r = -1 ∧ ∀ y ∈ L, mk y = 0 → ¬ y ≤ lim) ∨ (r ∈ L ∧ mk r = 0 ∧ r ≤ lim ∧ ∀ y ∈ L, mk y = 0 → y ≤ lim → y ≤ r)
def ab_ge (L : List Int) (mk : Int → Int) (lim r : Int) : Prop := (r = -1 ∧ ∀ y ∈ L, mk y = 0 → ¬ lim ≤ y) ∨ (r ∈ L ∧ mk r = 0 ∧ lim ≤ r ∧ ∀ y ∈ L, mk y = 0 → lim ≤ y → r ≤ y)
def ab_prs (L : List Int) (mk : Int → Int) (a : Nat → Int) : Prop := ∀ q : Nat, q < 500 → a q = if (q : Int) ∈ L ∧ mk (q : Int) = 0 then 1 else 0
theorem ab_np_le (L : List Int) (mk : Int → Int) : 0 ≤ ab_np L mk ∧ ab_np L mk ≤ (L.length : Int) := by
  unfold ab_np
  have := List.countP_le_length (p := fun y => decide (mk y = 0)) (l := L)
  omega
theorem tk_take_tw (dk : Int) : ∀ X : List (Int × Int), X.take (tk_tw dk X).length = tk_tw dk X := by
  intro X
  induction X with
  | nil => rfl
  | cons a X ih =>
    unfold tk_tw at ih ⊢
    rw [List.takeWhile_cons]
    split
    · rw [List.length_cons, List.take_succ_cons, ih]
    · rfl
section PX3
variable {nT : Int} {kT dT mT : Nat → Int} {L : List Int} {mk : Int → Int}
theorem ab_row' (hc : ab_cT nT kT dT mT L mk) (hg : ab_g L mk) {i : Nat} {x : Int} (h : ((tk_pr 1 L).map Prod.fst)[i]? = some x) : kT i = x ∧ dT i = ab_dep L x ∧ mT i = mk x ∧ x ∈ L ∧ (-1 < x ∧ x < 500) ∧ (1 ≤ ab_dep L x ∧ ab_dep L x ≤ 120) ∧ (mk x = 0 ∨ mk x = 1) ∧ i < (tk_pr 1 L).length := by
  obtain ⟨dx, hr⟩ := ab_kr hc hg h
  obtain ⟨e1, e2, e3, e4, e5, e6, e7, e8, e9⟩ := ab_row hc hg hr
  have e : dx = ab_dep L x := e8
  subst e
  exact ⟨e1, e2, e3, e4, e5, e6, e7, e9⟩
theorem ab_lenK (L : List Int) : ((tk_pr 1 L).map Prod.fst).length = (tk_pr 1 L).length := List.length_map _
theorem sp_X3_presentBetween (hc : ab_cT nT kT dT mT L mk) (hg : ab_g L mk) {a b : Nat} (hab : a ≤ b) (hb : b ≤ (tk_pr 1 L).length) {Q : Int → Prop}
    (hQ : Q (((((tk_pr 1 L).map Prod.fst).take b).drop a).countP (fun y => decide (mk y = 0)) : Nat)) : wp_X3_presentBetween mT (a : Int) (b : Int) Q := by
  obtain ⟨hn, hn2, hn3⟩ := ab_len hc hg
  have hK := ab_lenK L
  have main : ∀ (S : List Int) (i : Nat) (acc : Int), (((tk_pr 1 L).map Prod.fst).take b).drop i = S → i ≤ b → Q (acc + (S.countP (fun y => decide (mk y = 0)) : Nat)) → lq2 (wp_X3_presentBetween_5 mT (b : Int) Q) (S.length + 1) acc (i : Int) := by
    intro S
    induction S with
    | nil =>
      intro i acc hS hi q
      have h9 := ab_drop_nil hS
      rw [List.length_take] at h9
      show wp_X3_presentBetween_5 mT (b : Int) Q (lq2 (wp_X3_presentBetween_5 mT (b : Int) Q) 0) acc (i : Int)
      unfold wp_X3_presentBetween_5
      refine ⟨by omega, by omega, fun _ => ?_, fun h => absurd (by omega) h⟩
      simpa using q
    | cons x S ih =>
      intro i acc hS hi q
      obtain ⟨hx, hS1, hlt⟩ := ab_drop hS
      rw [List.length_take] at hlt
      have hx2 : ((tk_pr 1 L).map Prod.fst)[i]? = some x := by
        rw [List.getElem?_take_of_lt (by omega)] at hx
        exact hx
      obtain ⟨e1, e2, e3, e4, e5, e6, e7, e8⟩ := ab_row' hc hg hx2
      show wp_X3_presentBetween_5 mT (b : Int) Q (lq2 (wp_X3_presentBetween_5 mT (b : Int) Q) (S.length + 1)) acc (i : Int)
      generalize lq2 (wp_X3_presentBetween_5 mT (b : Int) Q) (S.length + 1) = K at ih ⊢
      unfold wp_X3_presentBetween_5
      simp only [Int.toNat_natCast, e3]
      refine ⟨by omega, by omega, fun h => absurd h (by omega), fun _ => ⟨by omega, by omega, fun h => ?_, fun h => ?_⟩⟩
      · rw [List.countP_cons_of_neg (by simpa using h)] at q
        have := ih (i + 1) acc hS1 (by omega) q
        push_cast at this
        exact this
      · rw [List.countP_cons_of_pos (by simpa using h)] at q
        have := ih (i + 1) (acc + 1) hS1 (by omega) (by
          push_cast at q
          rw [show acc + 1 + ((S.countP (fun y => decide (mk y = 0)) : Nat) : Int) = acc + (((S.countP (fun y => decide (mk y = 0)) : Nat) : Int) + 1) by omega]
          exact q)
        push_cast at this
        exact this
  unfold wp_X3_presentBetween
  exact ⟨_, main _ a 0 rfl hab (by rw [Int.zero_add]; exact hQ)⟩
theorem sp_X3_presentKeys (hc : ab_cT nT kT dT mT L mk) (hg : ab_g L mk) {Q : Int → Prop} (hQ : Q (ab_np L mk)) : wp_X3_presentKeys nT mT Q := by
  obtain ⟨hn, hn2, hn3⟩ := ab_len hc hg
  unfold wp_X3_presentKeys
  have h := sp_X3_presentBetween hc hg (a := 0) (b := (tk_pr 1 L).length) (Nat.zero_le _) (Nat.le_refl _) (Q := Q) (by
    rw [← ab_lenK L, List.take_length, List.drop_zero, (tk_pr_perm L 1 hg.1).countP_eq]
    exact hQ)
  rw [hn]
  exact h
theorem sp_X3_markedNodes (hc : ab_cT nT kT dT mT L mk) (hg : ab_g L mk) {Q : Int → Prop} (hQ : Q ((L.length : Int) - ab_np L mk)) : wp_X3_markedNodes nT mT Q := by
  unfold wp_X3_markedNodes
  refine sp_X3_presentKeys hc hg ?_
  rw [hc.1]
  exact hQ
theorem ab_subtree (hc : ab_cT nT kT dT mT L mk) (hg : ab_g L mk) {j : Nat} {x dx : Int} (hr : (tk_pr 1 L)[j]? = some (x, dx)) :
    ((1 + (tk_tw dx ((tk_pr 1 L).drop (j + 1))).length : Nat) : Int) = ab_cnt L x ∧ j + 1 + (tk_tw dx ((tk_pr 1 L).drop (j + 1))).length ≤ (tk_pr 1 L).length ∧
    ((((((tk_pr 1 L).map Prod.fst).take (j + 1 + (tk_tw dx ((tk_pr 1 L).drop (j + 1))).length)).drop j).countP (fun y => decide (mk y = 0)) : Nat) : Int) = ab_cntp L mk x := by
  have hs := tk_sub L 1 (-1) 500 hg.2.1 hg.1 j x dx hr
  have hle := tk_tw_le dx ((tk_pr 1 L).drop (j + 1))
  rw [List.length_drop] at hle
  have hlt := (List.getElem?_eq_some_iff.mp hr).1
  refine ⟨?_, by omega, ?_⟩
  · have h := hs.length_eq
    rw [List.length_map, List.length_cons, ← List.countP_eq_length_filter] at h
    unfold ab_cnt
    rw [show (L.countP (ab_btw (ab_bd L x))) = _ from h.symm]
    omega
  · have e1 : (((tk_pr 1 L).map Prod.fst).take (j + 1 + (tk_tw dx ((tk_pr 1 L).drop (j + 1))).length)).drop j = (((x, dx) :: tk_tw dx ((tk_pr 1 L).drop (j + 1))).map Prod.fst) := by
      rw [List.drop_take, show j + 1 + (tk_tw dx ((tk_pr 1 L).drop (j + 1))).length - j = (tk_tw dx ((tk_pr 1 L).drop (j + 1))).length + 1 by omega, ← List.map_drop]
      have e2 : (tk_pr 1 L).drop j = (x, dx) :: (tk_pr 1 L).drop (j + 1) := by
        rw [List.drop_eq_getElem_cons hlt]
        rw [List.getElem?_eq_getElem hlt] at hr
        rw [Option.some.inj hr]
      rw [e2, List.map_cons, List.take_succ_cons, List.map_cons]
      congr 1
      rw [← List.map_take]
      congr 1
      exact tk_take_tw dx _
    rw [e1, hs.countP_eq, List.countP_filter]
    unfold ab_cntp
    congr 1
    refine List.countP_congr (fun y _ => ?_)
    simp only [Bool.and_eq_true, decide_eq_true_eq]
    exact And.comm
theorem sp_X3_numberOfNode (hc : ab_cT nT kT dT mT L mk) (hg : ab_g L mk) {j : Nat} {x dx w : Int} (hr : (tk_pr 1 L)[j]? = some (x, dx)) (hw : 0 ≤ w ∧ w ≤ 4) {Q : Int → Prop}
    (hQ : Q (if w = 0 then x else if w = 1 then mk x else if w = 2 then ab_dep L x else if w = 3 then ab_cnt L x else ab_cntp L mk x)) : wp_X3_numberOfNode nT kT dT mT (j : Int) w Q := by
  obtain ⟨hn, hn2, hn3⟩ := ab_len hc hg
  obtain ⟨e1, e2, e3, e4, e5, e6, e7, e8, e9⟩ := ab_row hc hg hr
  obtain ⟨s1, s2, s3⟩ := ab_subtree hc hg hr
  have ed : dx = ab_dep L x := e8
  unfold wp_X3_numberOfNode
  simp only [Int.toNat_natCast, e1, e2, e3]
  refine ⟨by omega, fun h => ⟨by omega, ?_⟩, fun h => ⟨by omega, by omega, fun h2 => ?_, fun h2 => ?_⟩, fun h => ⟨by omega, ?_⟩, fun h => ?_, fun h => ?_⟩
  · rw [if_pos h] at hQ
    exact hQ
  · rw [if_neg (by omega), if_pos h, h2] at hQ
    exact hQ
  · rw [if_neg (by omega), if_pos h, show mk x = 1 by omega] at hQ
    exact hQ
  · rw [if_neg (by omega), if_neg (by omega), if_pos h] at hQ
    rw [ed]
    exact hQ
  · rw [if_neg (by omega), if_neg (by omega), if_neg (by omega), if_pos h] at hQ
    refine sp_X3_subtreeEnd hc hg hr ?_
    rw [show ((j + 1 + (tk_tw dx ((tk_pr 1 L).drop (j + 1))).length : Nat) : Int) - (j : Int) = ((1 + (tk_tw dx ((tk_pr 1 L).drop (j + 1))).length : Nat) : Int) by omega, s1]
    exact hQ
  · rw [if_neg (by omega), if_neg (by omega), if_neg (by omega), if_neg (by omega)] at hQ
    refine sp_X3_subtreeEnd hc hg hr ?_
    refine sp_X3_presentBetween hc hg (by omega) s2 ?_
    rw [s3]
    exact hQ
theorem sp_X3_presentBelow (hc : ab_cT nT kT dT mT L mk) (hg : ab_g L mk) {key : Int} (hk : inR key) {Q : Int → Prop} (hQ : Q (ab_rank L mk key)) : wp_X3_presentBelow nT kT mT key Q := by
  obtain ⟨hn, hn2, hn3⟩ := ab_len hc hg
  have hK := ab_lenK L
  have main : ∀ (S : List Int) (i : Nat) (acc : Int), ((tk_pr 1 L).map Prod.fst).drop i = S → i ≤ (tk_pr 1 L).length → Q (acc + (S.countP (fun y => decide (mk y = 0 ∧ y < key)) : Nat)) → lq2 (wp_X3_presentBelow_4 nT kT mT key Q) (S.length + 1) acc (i : Int) := by
    intro S
    induction S with
    | nil =>
      intro i acc hS hi q
      have h9 := ab_drop_nil hS
      show wp_X3_presentBelow_4 nT kT mT key Q (lq2 (wp_X3_presentBelow_4 nT kT mT key Q) 0) acc (i : Int)
      unfold wp_X3_presentBelow_4
      refine ⟨by omega, by omega, fun _ => ?_, fun h => absurd (by omega) h⟩
      simpa using q
    | cons x S ih =>
      intro i acc hS hi q
      obtain ⟨hx, hS1, hlt⟩ := ab_drop hS
      obtain ⟨e1, e2, e3, e4, e5, e6, e7, e8⟩ := ab_row' hc hg hx
      show wp_X3_presentBelow_4 nT kT mT key Q (lq2 (wp_X3_presentBelow_4 nT kT mT key Q) (S.length + 1)) acc (i : Int)
      generalize lq2 (wp_X3_presentBelow_4 nT kT mT key Q) (S.length + 1) = K at ih ⊢
      have nx : ∀ acc, Q (acc + (S.countP (fun y => decide (mk y = 0 ∧ y < key)) : Nat)) → K acc ((i : Int) + 1) := by
        intro acc q
        have := ih (i + 1) acc hS1 (by omega) q
        push_cast at this
        exact this
      unfold wp_X3_presentBelow_4
      simp only [Int.toNat_natCast, e1, e3]
      refine ⟨by omega, by omega, fun h => absurd h (by omega), fun _ => ⟨by omega, by omega, fun h => ?_, fun h => ⟨by omega, by omega, by omega, fun h2 => ?_, fun h2 => ?_⟩⟩⟩
      · rw [List.countP_cons_of_neg (by simp; omega)] at q
        exact nx _ q
      · rw [List.countP_cons_of_neg (by simp; omega)] at q
        exact nx _ q
      · rw [List.countP_cons_of_pos (by simp; omega)] at q
        push_cast at q
        refine nx _ ?_
        rw [show acc + 1 + ((S.countP (fun y => decide (mk y = 0 ∧ y < key)) : Nat) : Int) = acc + (((S.countP (fun y => decide (mk y = 0 ∧ y < key)) : Nat) : Int) + 1) by omega]
        exact q
  unfold wp_X3_presentBelow
  refine ⟨_, main _ 0 0 rfl (Nat.zero_le _) ?_⟩
  rw [Int.zero_add, List.drop_zero, (tk_pr_perm L 1 hg.1).countP_eq]
  exact hQ
theorem ab_mem_take {l : List Int} {i : Nat} {x y : Int} (h : l[i]? = some x) : y ∈ l.take (i + 1) ↔ y ∈ l.take i ∨ y = x := by
  rw [List.take_succ, h]
  simp
theorem sp_X3_greatestUpTo (hc : ab_cT nT kT dT mT L mk) (hg : ab_g L mk) {lim : Int} (hk : inR lim) {Q : Int → Prop} (hQ : ∀ r, ab_le L mk lim r → Q r) : wp_X3_greatestUpTo nT kT mT lim Q := by
  obtain ⟨hn, hn2, hn3⟩ := ab_len hc hg
  have hK := ab_lenK L
  have main : ∀ (S : List Int) (i : Nat) (g : Int), ((tk_pr 1 L).map Prod.fst).drop i = S → i ≤ (tk_pr 1 L).length → (-1 ≤ g ∧ g < 500) → ab_le (((tk_pr 1 L).map Prod.fst).take i) mk lim g → lq2 (wp_X3_greatestUpTo_4 nT kT mT lim Q) (S.length + 1) g (i : Int) := by
    intro S
    induction S with
    | nil =>
      intro i g hS hi hr q
      have h9 := ab_drop_nil hS
      show wp_X3_greatestUpTo_4 nT kT mT lim Q (lq2 (wp_X3_greatestUpTo_4 nT kT mT lim Q) 0) g (i : Int)
      unfold wp_X3_greatestUpTo_4
      refine ⟨by omega, by omega, fun _ => hQ g ?_, fun h => absurd (by omega) h⟩
      rw [List.take_of_length_le h9] at q
      have hm : ∀ y, y ∈ (tk_pr 1 L).map Prod.fst ↔ y ∈ L := fun y => (tk_pr_perm L 1 hg.1).mem_iff
      unfold ab_le at q ⊢
      simp only [hm] at q
      exact q
    | cons x S ih =>
      intro i g hS hi hr q
      obtain ⟨hx, hS1, hlt⟩ := ab_drop hS
      obtain ⟨e1, e2, e3, e4, e5, e6, e7, e8⟩ := ab_row' hc hg hx
      show wp_X3_greatestUpTo_4 nT kT mT lim Q (lq2 (wp_X3_greatestUpTo_4 nT kT mT lim Q) (S.length + 1)) g (i : Int)
      generalize lq2 (wp_X3_greatestUpTo_4 nT kT mT lim Q) (S.length + 1) = K at ih ⊢
      have nx : ∀ g, (-1 ≤ g ∧ g < 500) → ab_le (((tk_pr 1 L).map Prod.fst).take (i + 1)) mk lim g → K g ((i : Int) + 1) := by
        intro g hr q
        have := ih (i + 1) g hS1 (by omega) hr q
        push_cast at this
        exact this
      have hmt : ∀ y, y ∈ ((tk_pr 1 L).map Prod.fst).take (i + 1) ↔ y ∈ ((tk_pr 1 L).map Prod.fst).take i ∨ y = x := fun y => ab_mem_take hx
      unfold wp_X3_greatestUpTo_4
      simp only [Int.toNat_natCast, e1, e3]
      unfold ab_le at q nx
      simp only [hmt] at nx
      refine ⟨by omega, by omega, fun h => absurd h (by omega), fun _ => ⟨by omega, by omega, fun h => nx g hr ?_, fun h => ⟨by omega, by omega, by omega, fun h2 => nx g hr ?_, fun h2 => ⟨by omega, by omega, by omega, fun h3 => nx g hr ?_, fun h3 => ⟨by omega, nx x (by omega) ?_⟩⟩⟩⟩⟩
      · rcases q with ⟨q1, q2⟩ | ⟨q1, q2, q3, q4⟩
        · exact Or.inl ⟨q1, fun y hy hz => hy.elim (fun a => q2 y a hz) (fun a => by subst a; omega)⟩
        · exact Or.inr ⟨Or.inl q1, q2, q3, fun y hy hz => hy.elim (fun a => q4 y a hz) (fun a => by subst a; omega)⟩
      · rcases q with ⟨q1, q2⟩ | ⟨q1, q2, q3, q4⟩
        · exact Or.inl ⟨q1, fun y hy hz => hy.elim (fun a => q2 y a hz) (fun a => by subst a; omega)⟩
        · exact Or.inr ⟨Or.inl q1, q2, q3, fun y hy hz => hy.elim (fun a => q4 y a hz) (fun a => by subst a; omega)⟩
      · rcases q with ⟨q1, q2⟩ | ⟨q1, q2, q3, q4⟩
        · omega
        · exact Or.inr ⟨Or.inl q1, q2, q3, fun y hy hz => hy.elim (fun a => q4 y a hz) (fun a => by subst a; omega)⟩
      · refine Or.inr ⟨Or.inr rfl, by omega, by omega, fun y hy hz hl => ?_⟩
        rcases hy with hy | hy
        · rcases q with ⟨q1, q2⟩ | ⟨q1, q2, q3, q4⟩
          · exact absurd hl (q2 y hy hz)
          · have := q4 y hy hz hl; omega
        · omega
  unfold wp_X3_greatestUpTo
  exact ⟨_, main _ 0 (-1) rfl (Nat.zero_le _) (by decide) (Or.inl ⟨rfl, fun y hy => absurd hy List.not_mem_nil⟩)⟩
theorem sp_X3_leastFrom (hc : ab_cT nT kT dT mT L mk) (hg : ab_g L mk) {lim : Int} (hk : inR lim) {Q : Int → Prop} (hQ : ∀ r, ab_ge L mk lim r → Q r) : wp_X3_leastFrom nT kT mT lim Q := by
  obtain ⟨hn, hn2, hn3⟩ := ab_len hc hg
  have hK := ab_lenK L
  have main : ∀ (S : List Int) (i : Nat) (g : Int), ((tk_pr 1 L).map Prod.fst).drop i = S → i ≤ (tk_pr 1 L).length → (-1 < g ∧ g ≤ 500) → ((g = 500 ∧ ∀ y ∈ ((tk_pr 1 L).map Prod.fst).take i, mk y = 0 → ¬ lim ≤ y) ∨ (g ∈ ((tk_pr 1 L).map Prod.fst).take i ∧ mk g = 0 ∧ lim ≤ g ∧ g < 500 ∧ ∀ y ∈ ((tk_pr 1 L).map Prod.fst).take i, mk y = 0 → lim ≤ y → g ≤ y)) → lq2 (wp_X3_leastFrom_6 nT kT mT lim Q) (S.length + 1) g (i : Int) := by
    intro S
    induction S with
    | nil =>
      intro i g hS hi hr q
      have h9 := ab_drop_nil hS
      show wp_X3_leastFrom_6 nT kT mT lim Q (lq2 (wp_X3_leastFrom_6 nT kT mT lim Q) 0) g (i : Int)
      unfold wp_X3_leastFrom_6
      rw [List.take_of_length_le h9] at q
      have hm : ∀ y, y ∈ (tk_pr 1 L).map Prod.fst ↔ y ∈ L := fun y => (tk_pr_perm L 1 hg.1).mem_iff
      simp only [hm] at q
      refine ⟨by omega, by omega, fun _ => ⟨by omega, fun h => hQ g ?_, fun h => hQ (-1) ?_⟩, fun h => absurd (by omega) h⟩
      · rcases q with ⟨q1, q2⟩ | ⟨q1, q2, q3, q4, q5⟩
        · omega
        · exact Or.inr ⟨q1, q2, q3, q5⟩
      · rcases q with ⟨q1, q2⟩ | ⟨q1, q2, q3, q4, q5⟩
        · exact Or.inl ⟨rfl, q2⟩
        · omega
    | cons x S ih =>
      intro i g hS hi hr q
      obtain ⟨hx, hS1, hlt⟩ := ab_drop hS
      obtain ⟨e1, e2, e3, e4, e5, e6, e7, e8⟩ := ab_row' hc hg hx
      show wp_X3_leastFrom_6 nT kT mT lim Q (lq2 (wp_X3_leastFrom_6 nT kT mT lim Q) (S.length + 1)) g (i : Int)
      generalize lq2 (wp_X3_leastFrom_6 nT kT mT lim Q) (S.length + 1) = K at ih ⊢
      have nx : ∀ g, (-1 < g ∧ g ≤ 500) → ((g = 500 ∧ ∀ y ∈ ((tk_pr 1 L).map Prod.fst).take (i + 1), mk y = 0 → ¬ lim ≤ y) ∨ (g ∈ ((tk_pr 1 L).map Prod.fst).take (i + 1) ∧ mk g = 0 ∧ lim ≤ g ∧ g < 500 ∧ ∀ y ∈ ((tk_pr 1 L).map Prod.fst).take (i + 1), mk y = 0 → lim ≤ y → g ≤ y)) → K g ((i : Int) + 1) := by
        intro g hr q
        have := ih (i + 1) g hS1 (by omega) hr q
        push_cast at this
        exact this
      have hmt : ∀ y, y ∈ ((tk_pr 1 L).map Prod.fst).take (i + 1) ↔ y ∈ ((tk_pr 1 L).map Prod.fst).take i ∨ y = x := fun y => ab_mem_take hx
      unfold wp_X3_leastFrom_6
      simp only [Int.toNat_natCast, e1, e3]
      simp only [hmt] at nx
      refine ⟨by omega, by omega, fun h => absurd h (by omega), fun _ => ⟨by omega, by omega, fun h => nx g hr ?_, fun h => ⟨by omega, by omega, by omega, fun h2 => nx g hr ?_, fun h2 => ⟨by omega, by omega, by omega, fun h3 => nx g hr ?_, fun h3 => ⟨by omega, nx x (by omega) ?_⟩⟩⟩⟩⟩
      · rcases q with ⟨q1, q2⟩ | ⟨q1, q2, q3, q4, q5⟩
        · exact Or.inl ⟨q1, fun y hy hz => hy.elim (fun a => q2 y a hz) (fun a => by subst a; omega)⟩
        · exact Or.inr ⟨Or.inl q1, q2, q3, q4, fun y hy hz => hy.elim (fun a => q5 y a hz) (fun a => by subst a; omega)⟩
      · rcases q with ⟨q1, q2⟩ | ⟨q1, q2, q3, q4, q5⟩
        · exact Or.inl ⟨q1, fun y hy hz => hy.elim (fun a => q2 y a hz) (fun a => by subst a; omega)⟩
        · exact Or.inr ⟨Or.inl q1, q2, q3, q4, fun y hy hz => hy.elim (fun a => q5 y a hz) (fun a => by subst a; omega)⟩
      · rcases q with ⟨q1, q2⟩ | ⟨q1, q2, q3, q4, q5⟩
        · omega
        · exact Or.inr ⟨Or.inl q1, q2, q3, q4, fun y hy hz => hy.elim (fun a => q5 y a hz) (fun a => by subst a; omega)⟩
      · refine Or.inr ⟨Or.inr rfl, by omega, by omega, by omega, fun y hy hz hl => ?_⟩
        rcases hy with hy | hy
        · rcases q with ⟨q1, q2⟩ | ⟨q1, q2, q3, q4, q5⟩
          · exact absurd hl (q2 y hy hz)
          · have := q5 y hy hz hl; omega
        · omega
  unfold wp_X3_leastFrom
  exact ⟨_, main _ 0 500 rfl (Nat.zero_le _) (by decide) (Or.inl ⟨rfl, fun y hy => absurd hy List.not_mem_nil⟩)⟩
theorem sp_X3_greatestDepth (hc : ab_cT nT kT dT mT L mk) (hg : ab_g L mk) {Q : Int → Prop} (hQ : Q (ab_dmax L)) : wp_X3_greatestDepth nT dT Q := by
  obtain ⟨hn, hn2, hn3⟩ := ab_len hc hg
  have hK := ab_lenK L
  have main : ∀ (S : List Int) (i : Nat) (acc : Int), ((tk_pr 1 L).map Prod.fst).drop i = S → i ≤ (tk_pr 1 L).length → (0 ≤ acc ∧ acc ≤ 120) → Q (S.foldl (fun g y => max g (ab_dep L y)) acc) → lq2 (wp_X3_greatestDepth_4 nT dT Q) (S.length + 1) acc (i : Int) := by
    intro S
    induction S with
    | nil =>
      intro i acc hS hi hr q
      have h9 := ab_drop_nil hS
      show wp_X3_greatestDepth_4 nT dT Q (lq2 (wp_X3_greatestDepth_4 nT dT Q) 0) acc (i : Int)
      unfold wp_X3_greatestDepth_4
      exact ⟨by omega, by omega, fun _ => q, fun h => absurd (by omega) h⟩
    | cons x S ih =>
      intro i acc hS hi hr q
      obtain ⟨hx, hS1, hlt⟩ := ab_drop hS
      obtain ⟨e1, e2, e3, e4, e5, e6, e7, e8⟩ := ab_row' hc hg hx
      show wp_X3_greatestDepth_4 nT dT Q (lq2 (wp_X3_greatestDepth_4 nT dT Q) (S.length + 1)) acc (i : Int)
      generalize lq2 (wp_X3_greatestDepth_4 nT dT Q) (S.length + 1) = K at ih ⊢
      unfold wp_X3_greatestDepth_4
      simp only [Int.toNat_natCast, e2]
      refine ⟨by omega, by omega, fun h => absurd h (by omega), fun _ => ⟨by omega, by omega, by omega, ?_⟩⟩
      have := ih (i + 1) (max acc (ab_dep L x)) hS1 (by omega) (by omega) q
      push_cast at this
      exact this
  unfold wp_X3_greatestDepth
  refine ⟨_, main _ 0 0 rfl (Nat.zero_le _) (by decide) ?_⟩
  rw [List.drop_zero, (tk_pr_perm L 1 hg.1).foldl_eq' (fun x _ y _ z => by omega)]
  exact hQ
theorem sp_X3_sumOfDepths (hc : ab_cT nT kT dT mT L mk) (hg : ab_g L mk) {w : Int} (hw : w = 0 ∨ w = 1) {Q : Int → Prop} (hQ : Q (if w = 0 then ab_dsump L mk else ab_dsum L)) : wp_X3_sumOfDepths nT dT mT w Q := by
  obtain ⟨hn, hn2, hn3⟩ := ab_len hc hg
  have hK := ab_lenK L
  have main : ∀ (S : List Int) (i : Nat) (acc : Int), ((tk_pr 1 L).map Prod.fst).drop i = S → i ≤ (tk_pr 1 L).length → Q (S.foldl (fun g y => if w = 0 then (if mk y = 0 then g + ab_dep L y else g) else g + ab_dep L y) acc) → lq2 (wp_X3_sumOfDepths_4 nT dT mT w Q) (S.length + 1) acc (i : Int) := by
    intro S
    induction S with
    | nil =>
      intro i acc hS hi q
      have h9 := ab_drop_nil hS
      show wp_X3_sumOfDepths_4 nT dT mT w Q (lq2 (wp_X3_sumOfDepths_4 nT dT mT w Q) 0) acc (i : Int)
      unfold wp_X3_sumOfDepths_4
      exact ⟨by omega, by omega, fun _ => q, fun h => absurd (by omega) h⟩
    | cons x S ih =>
      intro i acc hS hi q
      obtain ⟨hx, hS1, hlt⟩ := ab_drop hS
      obtain ⟨e1, e2, e3, e4, e5, e6, e7, e8⟩ := ab_row' hc hg hx
      show wp_X3_sumOfDepths_4 nT dT mT w Q (lq2 (wp_X3_sumOfDepths_4 nT dT mT w Q) (S.length + 1)) acc (i : Int)
      generalize lq2 (wp_X3_sumOfDepths_4 nT dT mT w Q) (S.length + 1) = K at ih ⊢
      have nx : ∀ acc, Q (S.foldl (fun g y => if w = 0 then (if mk y = 0 then g + ab_dep L y else g) else g + ab_dep L y) acc) → K acc ((i : Int) + 1) := by
        intro acc q
        have := ih (i + 1) acc hS1 (by omega) q
        push_cast at this
        exact this
      unfold wp_X3_sumOfDepths_4 wp_X3_sumOfDepths_25
      simp only [Int.toNat_natCast, e2, e3]
      rw [List.foldl_cons] at q
      refine ⟨by omega, by omega, fun h => absurd h (by omega), fun _ => ⟨by omega, fun h => ⟨by omega, nx _ ?_⟩, fun h => ⟨by omega, by omega, fun h2 => nx _ ?_, fun h2 => ⟨by omega, nx _ ?_⟩⟩⟩⟩
      · rw [if_neg h] at q
        exact q
      · rw [if_pos (by omega), if_neg h2] at q
        exact q
      · rw [if_pos (by omega), if_pos (by omega)] at q
        exact q
  unfold wp_X3_sumOfDepths
  refine ⟨_, main _ 0 0 rfl (Nat.zero_le _) ?_⟩
  rw [List.drop_zero, (tk_pr_perm L 1 hg.1).foldl_eq' (fun x _ y _ z => by split <;> (try split) <;> (try split) <;> omega)]
  by_cases h : w = 0
  · simp only [if_pos h] at hQ ⊢
    exact hQ
  · simp only [if_neg h] at hQ ⊢
    exact hQ
theorem sp_X3_leaves (hc : ab_cT nT kT dT mT L mk) (hg : ab_g L mk) {Q : Int → Prop} (hQ : Q (ab_lvs L)) : wp_X3_leaves nT dT Q := by
  obtain ⟨hn, hn2, hn3⟩ := ab_len hc hg
  have hK := ab_lenK L
  have main : ∀ (S : List Int) (i : Nat) (acc : Int), ((tk_pr 1 L).map Prod.fst).drop i = S → i ≤ (tk_pr 1 L).length → Q (acc + (S.countP (fun y => decide (ab_cnt L y = 1)) : Nat)) → lq2 (wp_X3_leaves_4 nT dT Q) (S.length + 1) acc (i : Int) := by
    intro S
    induction S with
    | nil =>
      intro i acc hS hi q
      have h9 := ab_drop_nil hS
      show wp_X3_leaves_4 nT dT Q (lq2 (wp_X3_leaves_4 nT dT Q) 0) acc (i : Int)
      unfold wp_X3_leaves_4
      refine ⟨by omega, by omega, fun _ => ?_, fun h => absurd (by omega) h⟩
      simpa using q
    | cons x S ih =>
      intro i acc hS hi q
      obtain ⟨hx, hS1, hlt⟩ := ab_drop hS
      obtain ⟨e1, e2, e3, e4, e5, e6, e7, e8⟩ := ab_row' hc hg hx
      obtain ⟨dx, hr⟩ := ab_kr hc hg hx
      obtain ⟨s1, s2, s3⟩ := ab_subtree hc hg hr
      show wp_X3_leaves_4 nT dT Q (lq2 (wp_X3_leaves_4 nT dT Q) (S.length + 1)) acc (i : Int)
      generalize lq2 (wp_X3_leaves_4 nT dT Q) (S.length + 1) = K at ih ⊢
      have nx : ∀ acc, Q (acc + (S.countP (fun y => decide (ab_cnt L y = 1)) : Nat)) → K acc ((i : Int) + 1) := by
        intro acc q
        have := ih (i + 1) acc hS1 (by omega) q
        push_cast at this
        exact this
      unfold wp_X3_leaves_4
      refine ⟨by omega, by omega, fun h => absurd h (by omega), fun _ => sp_X3_subtreeEnd hc hg hr ⟨by omega, by omega, fun h => nx _ ?_, fun h => nx _ ?_⟩⟩
      · rw [List.countP_cons_of_neg (by simp; omega)] at q
        exact q
      · rw [List.countP_cons_of_pos (by simp; omega)] at q
        push_cast at q
        rw [show acc + 1 + ((S.countP (fun y => decide (ab_cnt L y = 1)) : Nat) : Int) = acc + (((S.countP (fun y => decide (ab_cnt L y = 1)) : Nat) : Int) + 1) by omega]
        exact q
  unfold wp_X3_leaves
  refine ⟨_, main _ 0 0 rfl (Nat.zero_le _) ?_⟩
  rw [Int.zero_add, List.drop_zero, (tk_pr_perm L 1 hg.1).countP_eq]
  exact hQ
theorem sp_X3_tellPresence (hc : ab_cT nT kT dT mT L mk) (hg : ab_g L mk) {aP : Nat → Int} {Q : (Nat → Int) → Prop} (hQ : ∀ a, ab_prs L mk a → Q a) : wp_X3_tellPresence nT kT mT aP Q := by
  obtain ⟨hn, hn2, hn3⟩ := ab_len hc hg
  have hK := ab_lenK L
  have two : ∀ (S : List Int) (i : Nat) (a : Nat → Int), ((tk_pr 1 L).map Prod.fst).drop i = S → i ≤ (tk_pr 1 L).length → ab_prs (((tk_pr 1 L).map Prod.fst).take i) mk a → lq2 (wp_X3_tellPresence_20 nT kT mT Q) (S.length + 1) a (i : Int) := by
    intro S
    induction S with
    | nil =>
      intro i a hS hi q
      have h9 := ab_drop_nil hS
      show wp_X3_tellPresence_20 nT kT mT Q (lq2 (wp_X3_tellPresence_20 nT kT mT Q) 0) a (i : Int)
      unfold wp_X3_tellPresence_20
      refine ⟨by omega, by omega, fun _ => hQ a (fun z hz => ?_), fun h => absurd (by omega) h⟩
      rw [List.take_of_length_le h9] at q
      have hm : ∀ y, y ∈ (tk_pr 1 L).map Prod.fst ↔ y ∈ L := fun y => (tk_pr_perm L 1 hg.1).mem_iff
      rw [q z hz]
      simp only [hm]
    | cons x S ih =>
      intro i a hS hi q
      obtain ⟨hx, hS1, hlt⟩ := ab_drop hS
      obtain ⟨e1, e2, e3, e4, e5, e6, e7, e8⟩ := ab_row' hc hg hx
      show wp_X3_tellPresence_20 nT kT mT Q (lq2 (wp_X3_tellPresence_20 nT kT mT Q) (S.length + 1)) a (i : Int)
      generalize lq2 (wp_X3_tellPresence_20 nT kT mT Q) (S.length + 1) = K at ih ⊢
      have hmt : ∀ y, y ∈ ((tk_pr 1 L).map Prod.fst).take (i + 1) ↔ y ∈ ((tk_pr 1 L).map Prod.fst).take i ∨ y = x := fun y => ab_mem_take hx
      have nx : ∀ v : Int, v = (if mk x = 0 then 1 else 0) → K (uI a x.toNat v) ((i : Int) + 1) := by
        intro v hv
        have := ih (i + 1) (uI a x.toNat v) hS1 (by omega) (fun z hz => by
          unfold uI
          simp only [hmt]
          by_cases he : z = x.toNat
          · rw [if_pos he, hv]
            have : (z : Int) = x := by omega
            simp only [this, or_true, true_and]
          · rw [if_neg he, q z hz]
            have : ¬ ((z : Int) = x) := by omega
            simp only [this, or_false])
        push_cast at this
        exact this
      unfold wp_X3_tellPresence_20
      simp only [Int.toNat_natCast, e1, e3]
      refine ⟨by omega, by omega, fun h => absurd h (by omega), fun _ => ⟨by omega, by omega, fun h => absurd h (by omega), fun _ => ⟨by omega, by omega, by omega, fun h => ⟨by omega, nx _ ?_⟩, fun h => ⟨by omega, nx _ ?_⟩⟩⟩⟩
      · rw [if_neg h]
      · rw [if_pos (by omega)]
  have one : ∀ (m i : Nat) (a : Nat → Int), i + m = 500 → (∀ z, z < i → a z = 0) → lq2 (wp_X3_tellPresence_2 nT kT mT Q) (m + 1) a (i : Int) := by
    intro m
    induction m with
    | zero =>
      intro i a hi q
      show wp_X3_tellPresence_2 nT kT mT Q (lq2 (wp_X3_tellPresence_2 nT kT mT Q) 0) a (i : Int)
      unfold wp_X3_tellPresence_2
      refine ⟨by omega, fun _ => ⟨_, two _ 0 a rfl (Nat.zero_le _) (fun z hz => ?_)⟩, fun h => absurd (by omega) h⟩
      rw [q z (by omega), List.take_zero, if_neg (fun h => absurd h.1 List.not_mem_nil)]
    | succ m ih =>
      intro i a hi q
      show wp_X3_tellPresence_2 nT kT mT Q (lq2 (wp_X3_tellPresence_2 nT kT mT Q) (m + 1)) a (i : Int)
      generalize lq2 (wp_X3_tellPresence_2 nT kT mT Q) (m + 1) = K at ih ⊢
      unfold wp_X3_tellPresence_2
      simp only [Int.toNat_natCast]
      refine ⟨by omega, fun h => absurd h (by omega), fun _ => ⟨by omega, ?_⟩⟩
      have := ih (i + 1) (uI a i 0) (by omega) (fun z hz => by
        unfold uI
        split
        · rfl
        · exact q z (by omega))
      push_cast at this
      exact this
  unfold wp_X3_tellPresence
  exact ⟨_, one 500 0 aP rfl (fun z hz => absurd hz (Nat.not_lt_zero _))⟩
theorem sp_X3_presentKeysAmong (hc : ab_cT nT kT dT mT L mk) (hg : ab_g L mk) {L0 : List Int} {mk0 : Int → Int} {aP : Nat → Int} (hp : ab_prs L0 mk0 aP) {Q : Int → Prop} (hQ : Q (L.countP (fun y => decide (mk y = 0 ∧ (y ∈ L0 ∧ mk0 y = 0))) : Nat)) : wp_X3_presentKeysAmong nT kT mT aP Q := by
  obtain ⟨hn, hn2, hn3⟩ := ab_len hc hg
  have hK := ab_lenK L
  have main : ∀ (S : List Int) (i : Nat) (acc : Int), ((tk_pr 1 L).map Prod.fst).drop i = S → i ≤ (tk_pr 1 L).length → Q (acc + (S.countP (fun y => decide (mk y = 0 ∧ (y ∈ L0 ∧ mk0 y = 0))) : Nat)) → lq2 (wp_X3_presentKeysAmong_4 nT kT mT aP Q) (S.length + 1) acc (i : Int) := by
    intro S
    induction S with
    | nil =>
      intro i acc hS hi q
      have h9 := ab_drop_nil hS
      show wp_X3_presentKeysAmong_4 nT kT mT aP Q (lq2 (wp_X3_presentKeysAmong_4 nT kT mT aP Q) 0) acc (i : Int)
      unfold wp_X3_presentKeysAmong_4
      refine ⟨by omega, by omega, fun _ => ?_, fun h => absurd (by omega) h⟩
      simpa using q
    | cons x S ih =>
      intro i acc hS hi q
      obtain ⟨hx, hS1, hlt⟩ := ab_drop hS
      obtain ⟨e1, e2, e3, e4, e5, e6, e7, e8⟩ := ab_row' hc hg hx
      show wp_X3_presentKeysAmong_4 nT kT mT aP Q (lq2 (wp_X3_presentKeysAmong_4 nT kT mT aP Q) (S.length + 1)) acc (i : Int)
      generalize lq2 (wp_X3_presentKeysAmong_4 nT kT mT aP Q) (S.length + 1) = K at ih ⊢
      have nx : ∀ acc, Q (acc + (S.countP (fun y => decide (mk y = 0 ∧ (y ∈ L0 ∧ mk0 y = 0))) : Nat)) → K acc ((i : Int) + 1) := by
        intro acc q
        have := ih (i + 1) acc hS1 (by omega) q
        push_cast at this
        exact this
      have ha := hp x.toNat (by omega)
      rw [show ((x.toNat : Nat) : Int) = x by omega] at ha
      unfold wp_X3_presentKeysAmong_4
      simp only [Int.toNat_natCast, e1, e3]
      refine ⟨by omega, by omega, fun h => absurd h (by omega), fun _ => ⟨by omega, by omega, fun h => nx _ ?_, fun h => ⟨by omega, by omega, fun h2 => absurd h2 (by omega), fun _ => ⟨by omega, by omega, by rw [ha]; split <;> decide, fun h2 => nx _ ?_, fun h2 => nx _ ?_⟩⟩⟩⟩
      · rw [List.countP_cons_of_neg (by simp; omega)] at q
        exact q
      · rw [ha] at h2
        have hno : ¬ (x ∈ L0 ∧ mk0 x = 0) := fun hh => by rw [if_pos hh] at h2; exact absurd h2 (by decide)
        rw [List.countP_cons_of_neg (by simp only [decide_eq_true_eq]; exact fun hh => hno hh.2)] at q
        exact q
      · rw [ha] at h2
        have hyes : x ∈ L0 ∧ mk0 x = 0 := by
          by_cases hh : x ∈ L0 ∧ mk0 x = 0
          · exact hh
          · rw [if_neg hh] at h2; exact absurd rfl h2
        rw [List.countP_cons_of_pos (by simp only [decide_eq_true_eq]; exact ⟨by omega, hyes⟩)] at q
        push_cast at q
        rw [show acc + 1 + ((S.countP (fun y => decide (mk y = 0 ∧ (y ∈ L0 ∧ mk0 y = 0))) : Nat) : Int) = acc + (((S.countP (fun y => decide (mk y = 0 ∧ (y ∈ L0 ∧ mk0 y = 0))) : Nat) : Int) + 1) by omega]
        exact q
  unfold wp_X3_presentKeysAmong
  refine ⟨_, main _ 0 0 rfl (Nat.zero_le _) ?_⟩
  rw [Int.zero_add, List.drop_zero, (tk_pr_perm L 1 hg.1).countP_eq]
  exact hQ
end PX3
