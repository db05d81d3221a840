/-! numbers of nodes, neighbours, ranks in the reference -/
theorem ab_cnt_le : ∀ (L : List Int) (b : Int), L.Nodup → (∀ y ∈ L, -1 < y) → L.countP (fun y => decide (y ≤ b)) = L.countP (fun y => decide (-1 < y ∧ y < b)) + (if b ∈ L then 1 else 0) := by
  intro L
  induction L with
  | nil => intro b _ _; simp
  | cons x xs ih =>
    intro b hn h
    have hx := h x List.mem_cons_self
    have hn2 := List.nodup_cons.mp hn
    have := ih b hn2.2 (fun y hy => h y (List.mem_cons_of_mem _ hy))
    rw [List.countP_cons, List.countP_cons, this]
    by_cases he : b = x
    · subst he
      rw [if_neg hn2.1]
      simp
    · have e : (b ∈ x :: xs) ↔ b ∈ xs := by simp [he]
      simp only [e]
      by_cases hlt : x < b
      · have h1 : decide (x ≤ b) = true := by simp; omega
        have h2 : decide (-1 < x ∧ x < b) = true := by simp; omega
        rw [h1, h2]
        simp only [if_true]
        omega
      · have h1 : decide (x ≤ b) = false := by simp; omega
        have h2 : decide (-1 < x ∧ x < b) = false := by simp; omega
        rw [h1, h2]
        simp
def ab_na (L : List Int) (mk : Int → Int) (w x : Int) : Int := if w = 0 then x else if w = 1 then mk x else if w = 2 then ab_dep L x else if w = 3 then ab_cnt L x else ab_cntp L mk x
/-- what node() tells of a tree -/
def ab_node (L : List Int) (mk : Int → Int) (node w : Int) : Int := match (tk_pr 1 L)[node.toNat]? with
  | none => -1
  | some r => ab_na L mk w r.1
section PX5
variable {z : Nat → Int} {t : Nat} {L : List Int} {mk : Int → Int}
theorem ab_bd_in (hg : ab_g L mk) {k : Int} (hk : k ∈ L) : (-1 ≤ (ab_bd L k).1 ∧ (ab_bd L k).1 < k) ∧ (k < (ab_bd L k).2 ∧ (ab_bd L k).2 ≤ 500) := by
  have h := hg.2.1 k hk
  exact tk_bp_le L (-1) 500 hg.2.1 h.1 h.2
theorem sp_X5_numberOf (hm : ab_mT z t L mk) (hg : ab_g L mk) (ht : t ≤ 241) {k dk : Int} {i : Nat} (hi : (tk_pr 1 L)[i]? = some (k, dk)) {nvi low high : Int} {vi : Nat → Int} {Q : Int → Int → Int → Int → (Nat → Int) → Prop}
    (hQ : ∀ (nvi low high : Int) (vi : Nat → Int), Q (i : Int) nvi low high vi) : wp_X5_numberOf nvi low high z vi (t : Int) k Q := by
  have hk : k ∈ L := tk_pr_mem _ _ _ (List.mem_of_getElem? hi)
  have hkr := hg.2.1 k hk
  have hl := hg.2.2.1
  have hb := ab_bd_in hg hk
  have hidx := tk_idx L 1 (-1) 500 hg.2.1 hg.1 i k dk hi
  have hlen := tk_sk_len (key := k) L (-1) 500
  have hcl := ab_cnt_le L (ab_bd L k).1 hg.1 (fun y hy => (hg.2.1 y hy).1)
  have hmem := tk_bp_mem (k := k) (ab_s k L) (-1) 500
  have hpr : ∀ y ∈ ab_s k L, inR y := fun y hy => by have := (tk_sk_mem _ _ _ _ hy).2; omega
  have e0 : L.countP (fun y => decide (-1 < y ∧ y < (ab_bd L k).1) && decide ((0 : Int) = 0 ∨ mk y = 0)) = L.countP (fun y => decide (-1 < y ∧ y < (ab_bd L k).1)) := List.countP_congr (fun y _ => by simp)
  unfold wp_X5_numberOf
  refine sp_X5_seekBounds hm hg ht hk (fun vi hvi => sp_X5_between hm hg ht (by decide) (by omega) (Or.inl rfl) ⟨by omega, fun h => ?_, fun h => ?_⟩)
  · refine sp_X5_lesserAbove hvi (by unfold ab_s; omega) hpr (by omega) ?_
    have hno : (ab_bd L k).1 ∉ L := fun q => by have := hg.2.1 _ q; omega
    rw [if_neg hno] at hcl
    have hz : L.countP (fun y => decide (y ≤ (ab_bd L k).1)) = 0 := List.countP_eq_zero.mpr (fun y hy => by have := hg.2.1 y hy; simp; omega)
    rw [e0]
    have : ((((ab_s k L).length : Int) - 1) + ((L.countP (fun y => decide (-1 < y ∧ y < (ab_bd L k).1)) : Nat) : Int) + 0) - (((ab_s k L).dropLast.countP (fun v => decide (v < k)) : Nat) : Int) = (i : Int) := by
      unfold ab_bd ab_s at *
      omega
    rw [this]
    exact hQ _ _ _ _
  · refine sp_X5_lesserAbove hvi (by unfold ab_s; omega) hpr (by omega) ?_
    have hyes : (ab_bd L k).1 ∈ L := by
      rcases hmem with q | q
      · unfold ab_bd at h; omega
      · exact (tk_sk_mem _ _ _ _ q).1
    rw [if_pos hyes] at hcl
    rw [e0]
    have : ((((ab_s k L).length : Int) - 1) + ((L.countP (fun y => decide (-1 < y ∧ y < (ab_bd L k).1)) : Nat) : Int) + 1) - (((ab_s k L).dropLast.countP (fun v => decide (v < k)) : Nat) : Int) = (i : Int) := by
      unfold ab_bd ab_s at *
      omega
    rw [this]
    exact hQ _ _ _ _
theorem sp_X5_aboutNode (hm : ab_mT z t L mk) (hg : ab_g L mk) (ht : t ≤ 241) {j : Nat} {x w : Int} (hx : L[j]? = some x) (hw : 0 ≤ w ∧ w ≤ 4) {nvi low high : Int} {vi : Nat → Int} {Q : Int → Int → Int → Int → (Nat → Int) → Prop}
    (hQ : ∀ (nvi low high : Int) (vi : Nat → Int), Q (ab_na L mk w x) nvi low high vi) : wp_X5_aboutNode nvi low high z vi (t : Int) (j : Int) w Q := by
  obtain ⟨e1, e2, e3, e4, e5, e6⟩ := ab_mrow hm hg hx
  have hl := hg.2.2.1
  have hb := ab_bd_in hg e3
  have ei : ((t : Int) + 1 + (j : Int)).toNat = t + 1 + j := by omega
  have em : ((t : Int) + 121 + (j : Int)).toNat = t + 121 + j := by omega
  unfold wp_X5_aboutNode
  simp only [ei, em, e1, e2]
  unfold ab_na at hQ
  refine ⟨by omega, sp_X5_seekBounds hm hg ht e3 (fun vi hvi => ⟨by omega, fun h => ?_, fun h => ⟨by omega, ?_⟩, fun h => ?_, fun h => ⟨by omega, fun h2 => ?_, fun h2 => ?_⟩⟩)⟩
  · have := hQ ((ab_s x L).length : Int) (ab_bd L x).1 (ab_bd L x).2 vi
    rw [if_pos h] at this
    exact this
  · have := hQ ((ab_s x L).length : Int) (ab_bd L x).1 (ab_bd L x).2 vi
    rw [if_neg (by omega), if_pos h] at this
    exact this
  · have := hQ ((ab_s x L).length : Int) (ab_bd L x).1 (ab_bd L x).2 vi
    rw [if_neg (by omega), if_neg (by omega), if_pos h] at this
    exact this
  · refine sp_X5_between hm hg ht (by omega) (by omega) (Or.inl rfl) ?_
    have := hQ ((ab_s x L).length : Int) (ab_bd L x).1 (ab_bd L x).2 vi
    rw [if_neg (by omega), if_neg (by omega), if_neg (by omega), if_pos (by omega)] at this
    unfold ab_cnt at this
    rw [show L.countP (fun y => decide ((ab_bd L x).1 < y ∧ y < (ab_bd L x).2) && decide ((0 : Int) = 0 ∨ mk y = 0)) = L.countP (ab_btw (ab_bd L x)) from List.countP_congr (fun y _ => by simp [ab_btw])]
    exact this
  · refine sp_X5_between hm hg ht (by omega) (by omega) (Or.inr rfl) ?_
    have := hQ ((ab_s x L).length : Int) (ab_bd L x).1 (ab_bd L x).2 vi
    rw [if_neg (by omega), if_neg (by omega), if_neg (by omega), if_neg (by omega)] at this
    unfold ab_cntp at this
    rw [show L.countP (fun y => decide ((ab_bd L x).1 < y ∧ y < (ab_bd L x).2) && decide ((1 : Int) = 0 ∨ mk y = 0)) = L.countP (fun v => ab_btw (ab_bd L x) v && decide (mk v = 0)) from List.countP_congr (fun y _ => by simp [ab_btw])]
    exact this
theorem ab_ix (hg : ab_g L mk) {x : Int} (hx : x ∈ L) : ∃ (i : Nat) (dx : Int), (tk_pr 1 L)[i]? = some (x, dx) := by
  have h : x ∈ (tk_pr 1 L).map Prod.fst := (tk_pr_perm L 1 hg.1).mem_iff.mpr hx
  obtain ⟨r, hr, rfl⟩ := List.mem_map.mp h
  obtain ⟨i, hi⟩ := List.getElem?_of_mem hr
  exact ⟨i, r.2, hi⟩
theorem sp_X5_node_46 (hm : ab_mT z t L mk) (hg : ab_g L mk) (ht : t ≤ 241) {node w thr : Int} (hn : 0 ≤ node ∧ node ≤ 2147483647) (hw : 0 ≤ w ∧ w ≤ 4) {nvi low high : Int} {vi : Nat → Int} {Q : Int → Int → Int → Int → Int → (Nat → Int) → Prop}
    (hQ : ∀ (nvi low high : Int) (vi : Nat → Int), Q (ab_node L mk node w) thr nvi low high vi) : ∃ n, lq6 (wp_X5_node_46 thr z node w (t : Int) Q) n nvi low high vi (-1) 0 := by
  have hz := hm.1
  have hl := hg.2.2.1
  have hpl := tk_pr_len L 1 hg.1
  have main : ∀ (S : List Int) (i : Nat) (p nvi low high : Int) (vi : Nat → Int), L.drop i = S → i ≤ L.length →
      ((p = -1 ∧ ∀ y ∈ L.take i, ∀ dy, (tk_pr 1 L)[node.toNat]? ≠ some (y, dy)) ∨ ∃ (j : Nat) (y dy : Int), p = (j : Int) ∧ L[j]? = some y ∧ (tk_pr 1 L)[node.toNat]? = some (y, dy)) →
      lq6 (wp_X5_node_46 thr z node w (t : Int) Q) (S.length + 1) nvi low high vi p (i : Int) := by
    intro S
    induction S with
    | nil =>
      intro i p nvi low high vi hS hi hp
      have h9 := ab_drop_nil hS
      show wp_X5_node_46 thr z node w (t : Int) Q (lq6 (wp_X5_node_46 thr z node w (t : Int) Q) 0) nvi low high vi p (i : Int)
      unfold wp_X5_node_46
      simp only [Int.toNat_natCast, hz]
      have hpr : inR p := by
        rcases hp with h | ⟨j, y, dy, h, h2, h3⟩
        · omega
        · have := (List.getElem?_eq_some_iff.mp h2).1; omega
      refine ⟨by omega, by omega, by omega, fun _ => ⟨hpr, fun h => ?_, fun h => ?_⟩, fun h => absurd (by omega) h⟩
      · obtain ⟨j, y, dy, rfl, h2, h3⟩ := hp.resolve_left (fun q => h q.1)
        refine sp_X5_aboutNode hm hg ht h2 hw (fun a b c d => ?_)
        have := hQ a b c d
        unfold ab_node at this
        rw [h3] at this
        exact this
      · have hp1 := hp.resolve_right (fun ⟨j, y, dy, q, _, _⟩ => by omega)
        have := hQ nvi low high vi
        unfold ab_node at this
        have hnone : (tk_pr 1 L)[node.toNat]? = none := by
          cases hr : (tk_pr 1 L)[node.toNat]? with
          | none => rfl
          | some r =>
            have hm1 := tk_pr_mem _ _ _ (List.mem_of_getElem? hr)
            refine absurd hr (hp1.2 r.1 ?_ r.2)
            rw [List.take_of_length_le h9]
            exact hm1
        rw [hnone] at this
        exact this
    | cons x S ih =>
      intro i p nvi low high vi hS hi hp
      obtain ⟨hx, hS1, hlt⟩ := ab_drop hS
      obtain ⟨e1, e2, e3, e4, e5, e6⟩ := ab_mrow hm hg hx
      obtain ⟨ix, dx, hix⟩ := ab_ix hg e3
      have hixl := (List.getElem?_eq_some_iff.mp hix).1
      show wp_X5_node_46 thr z node w (t : Int) Q (lq6 (wp_X5_node_46 thr z node w (t : Int) Q) (S.length + 1)) nvi low high vi p (i : Int)
      generalize lq6 (wp_X5_node_46 thr z node w (t : Int) Q) (S.length + 1) = K at ih ⊢
      have ei : ((t : Int) + 1 + (i : Int)).toNat = t + 1 + i := by omega
      have nx : ∀ (p nvi low high : Int) (vi : Nat → Int), ((p = -1 ∧ ∀ y ∈ L.take (i + 1), ∀ dy, (tk_pr 1 L)[node.toNat]? ≠ some (y, dy)) ∨ ∃ (j : Nat) (y dy : Int), p = (j : Int) ∧ L[j]? = some y ∧ (tk_pr 1 L)[node.toNat]? = some (y, dy)) → K nvi low high vi p ((i : Int) + 1) := by
        intro p nvi low high vi a
        have := ih (i + 1) p nvi low high vi hS1 (by omega) a
        push_cast at this
        exact this
      unfold wp_X5_node_46
      simp only [Int.toNat_natCast, hz, ei, e1]
      refine ⟨by omega, by omega, by omega, fun h => absurd h (by omega), fun _ => ⟨by omega, sp_X5_numberOf hm hg ht hix (fun nvi low high vi => ⟨by omega, by omega, fun h => nx _ _ _ _ _ ?_, fun h => nx _ _ _ _ _ ?_⟩)⟩⟩
      · rcases hp with ⟨hp1, hp2⟩ | hp
        · refine Or.inl ⟨hp1, fun y hy dy hh => ?_⟩
          rcases (ab_mem_take hx).mp hy with hy | hy
          · exact hp2 y hy dy hh
          · subst hy
            have hnd : ((tk_pr 1 L).map Prod.fst).Nodup := (tk_pr_perm L 1 hg.1).nodup_iff.mpr hg.1
            have h1 : ((tk_pr 1 L).map Prod.fst)[ix]? = some y := by rw [List.getElem?_map, hix]; rfl
            have h2 : ((tk_pr 1 L).map Prod.fst)[node.toNat]? = some y := by rw [List.getElem?_map, hh]; rfl
            have := (List.getElem?_inj (List.getElem?_eq_some_iff.mp h1).1 hnd).mp (h1.trans h2.symm)
            omega
        · exact Or.inr hp
      · refine Or.inr ⟨i, x, dx, rfl, hx, ?_⟩
        rw [show node.toNat = ix by omega]
        exact hix
  exact ⟨_, main L 0 (-1) nvi low high vi rfl (Nat.zero_le _) (Or.inl ⟨rfl, fun y hy => absurd hy List.not_mem_nil⟩)⟩
theorem sp_X5_leaves (hm : ab_mT z t L mk) (hg : ab_g L mk) (ht : t ≤ 241) {nvi low high : Int} {vi : Nat → Int} {Q : Int → Int → Int → Int → (Nat → Int) → Prop}
    (hQ : ∀ (nvi low high : Int) (vi : Nat → Int), Q (ab_lvs L) nvi low high vi) : wp_X5_leaves nvi low high z vi (t : Int) Q := by
  have hz := hm.1
  have hl := hg.2.2.1
  have main : ∀ (S : List Int) (i : Nat) (acc nvi low high : Int) (vi : Nat → Int), L.drop i = S → i ≤ L.length → (∀ (nvi low high : Int) (vi : Nat → Int), Q (acc + (S.countP (fun y => decide (ab_cnt L y = 1)) : Nat)) nvi low high vi) → lq6 (wp_X5_leaves_4 z (t : Int) Q) (S.length + 1) nvi low high vi acc (i : Int) := by
    intro S
    induction S with
    | nil =>
      intro i acc nvi low high vi hS hi q
      have h9 := ab_drop_nil hS
      show wp_X5_leaves_4 z (t : Int) Q (lq6 (wp_X5_leaves_4 z (t : Int) Q) 0) nvi low high vi acc (i : Int)
      unfold wp_X5_leaves_4
      simp only [Int.toNat_natCast, hz]
      exact ⟨by omega, by omega, by omega, fun _ => by simpa using q nvi low high vi, fun h => absurd (by omega) h⟩
    | cons x S ih =>
      intro i acc nvi low high vi hS hi q
      obtain ⟨hx, hS1, hlt⟩ := ab_drop hS
      obtain ⟨e1, e2, e3, e4, e5, e6⟩ := ab_mrow hm hg hx
      have hb := ab_bd_in hg e3
      show wp_X5_leaves_4 z (t : Int) Q (lq6 (wp_X5_leaves_4 z (t : Int) Q) (S.length + 1)) nvi low high vi acc (i : Int)
      generalize lq6 (wp_X5_leaves_4 z (t : Int) Q) (S.length + 1) = K at ih ⊢
      have ei : ((t : Int) + 1 + (i : Int)).toNat = t + 1 + i := by omega
      have nx : ∀ (acc nvi low high : Int) (vi : Nat → Int), (∀ (nvi low high : Int) (vi : Nat → Int), Q (acc + (S.countP (fun y => decide (ab_cnt L y = 1)) : Nat)) nvi low high vi) → K nvi low high vi acc ((i : Int) + 1) := by
        intro acc nvi low high vi a
        have := ih (i + 1) acc nvi low high vi hS1 (by omega) a
        push_cast at this
        exact this
      unfold wp_X5_leaves_4
      simp only [Int.toNat_natCast, hz, ei, e1]
      have ec : ((L.countP (fun y => decide ((ab_bd L x).1 < y ∧ y < (ab_bd L x).2) && decide ((0 : Int) = 0 ∨ mk y = 0)) : Nat) : Int) = ab_cnt L x := by
        unfold ab_cnt
        rw [show L.countP (fun y => decide ((ab_bd L x).1 < y ∧ y < (ab_bd L x).2) && decide ((0 : Int) = 0 ∨ mk y = 0)) = L.countP (ab_btw (ab_bd L x)) from List.countP_congr (fun y _ => by simp [ab_btw])]
      have hcl : 0 ≤ ab_cnt L x ∧ ab_cnt L x ≤ 120 := by
        unfold ab_cnt
        have := List.countP_le_length (p := ab_btw (ab_bd L x)) (l := L)
        omega
      refine ⟨by omega, by omega, by omega, fun h => absurd h (by omega), fun _ => ⟨by omega, sp_X5_seekBounds hm hg ht e3 (fun vi hvi => sp_X5_between hm hg ht (by omega) (by omega) (Or.inl rfl) ?_)⟩⟩
      rw [ec]
      refine ⟨by omega, fun h => nx _ _ _ _ _ (fun a b c d => ?_), fun h => nx _ _ _ _ _ (fun a b c d => ?_)⟩
      · have := q a b c d
        rw [List.countP_cons_of_neg (by simp; omega)] at this
        rw [Int.add_zero]
        exact this
      · have := q a b c d
        rw [List.countP_cons_of_pos (by simp; omega)] at this
        push_cast at this
        rw [show acc + 1 + ((S.countP (fun y => decide (ab_cnt L y = 1)) : Nat) : Int) = acc + (((S.countP (fun y => decide (ab_cnt L y = 1)) : Nat) : Int) + 1) by omega]
        exact this
  unfold wp_X5_leaves
  exact ⟨_, main L 0 0 _ _ _ _ rfl (Nat.zero_le _) (fun a b c d => by rw [Int.zero_add]; exact hQ a b c d)⟩
theorem sp_X5_in {v lo hi : Int} (h1 : inR v) (h2 : inR lo) (h3 : inR hi) {Q : Int → Prop} (h4 : ¬ (lo ≤ v ∧ v ≤ hi) → Q 0) (h5 : lo ≤ v ∧ v ≤ hi → Q 1) : wp_X5_in v lo hi Q := by
  unfold wp_X5_in
  exact ⟨h1, h2, fun h => h4 (by omega), fun h => ⟨h1, h3, fun h6 => h4 (by omega), fun h6 => h5 (by omega)⟩⟩
theorem sp_X5_isKey {v : Int} (h1 : inR v) {Q : Int → Prop} (h4 : ¬ (0 ≤ v ∧ v < 500) → Q 0) (h5 : 0 ≤ v ∧ v < 500 → Q 1) : wp_X5_isKey v Q := by
  unfold wp_X5_isKey
  exact sp_X5_in h1 (by decide) (by decide) (fun h => ⟨Or.inl rfl, h4 (by omega)⟩) (fun h => ⟨Or.inr rfl, h5 (by omega)⟩)
/-- downwards to the nearest present key -/
theorem sp_X5_near_dn (hm : ab_mT z 0 L mk) (hg : ab_g L mk) {lim thr : Int} (hl : -1 ≤ lim ∧ lim < 500) {Q : Int → Int → Prop} (hQ : ∀ r, ab_le L mk lim r → Q r thr) : ∃ n, lq1 (wp_X5_near_56 thr z (-1) Q) n lim := by
  have main : ∀ (m : Nat) (at_ : Int), at_ + 1 = (m : Int) → at_ ≤ lim → (∀ y ∈ L, mk y = 0 → at_ < y → ¬ y ≤ lim) → lq1 (wp_X5_near_56 thr z (-1) Q) (m + 1) at_ := by
    intro m
    induction m with
    | zero =>
      intro a ha h1 h2
      show wp_X5_near_56 thr z (-1) Q (lq1 (wp_X5_near_56 thr z (-1) Q) 0) a
      unfold wp_X5_near_56
      have e : a = -1 := by omega
      subst e
      refine sp_X5_isKey (by decide) (fun _ => ⟨by decide, fun _ => sp_X5_isKey (by decide) (fun _ => ⟨by decide, fun _ => hQ _ (Or.inl ⟨rfl, fun y hy hz => h2 y hy hz (hg.2.1 y hy).1⟩), fun h => absurd rfl h⟩) (fun h => by omega), fun h => absurd rfl h⟩) (fun h => by omega)
    | succ m ih =>
      intro a ha h1 h2
      show wp_X5_near_56 thr z (-1) Q (lq1 (wp_X5_near_56 thr z (-1) Q) (m + 1)) a
      generalize lq1 (wp_X5_near_56 thr z (-1) Q) (m + 1) = K at ih ⊢
      unfold wp_X5_near_56
      refine sp_X5_isKey (by omega) (fun h => by omega) (fun hk => ⟨by decide, fun h => absurd h (by decide), fun _ => ?_⟩)
      refine sp_X5_isPresent (t := 0) hm hg (Nat.zero_le _) (by omega) (fun hn => ⟨by decide, fun h => absurd rfl h, fun _ => ?_⟩) (fun hp => ⟨by decide, fun _ => ?_, fun h => absurd (by decide) h⟩)
      · have := ih (a + -1) (by omega) (by omega) (fun y hy hz hlt hle => by
          by_cases e : y = a
          · subst e; exact hn ⟨hy, hz⟩
          · exact h2 y hy hz (by omega) hle)
        exact this
      · refine sp_X5_isKey (by omega) (fun h => by omega) (fun _ => ⟨by decide, fun h => absurd h (by decide), fun _ => hQ a (Or.inr ⟨hp.1, hp.2, h1, fun y hy hz hle => ?_⟩)⟩)
        by_cases e : y ≤ a
        · exact e
        · exact absurd hle (h2 y hy hz (by omega))
  exact ⟨_, main (lim + 1).toNat lim (by omega) (Int.le_refl _) (fun y _ _ h1 h2 => by omega)⟩
theorem sp_X5_near_up (hm : ab_mT z 0 L mk) (hg : ab_g L mk) {lim thr : Int} (hl : 0 ≤ lim ∧ lim ≤ 500) {Q : Int → Int → Prop} (hQ : ∀ r, ab_ge L mk lim r → Q r thr) : ∃ n, lq1 (wp_X5_near_56 thr z 1 Q) n lim := by
  have main : ∀ (m : Nat) (at_ : Int), at_ + (m : Int) = 500 → lim ≤ at_ → (∀ y ∈ L, mk y = 0 → y < at_ → ¬ lim ≤ y) → lq1 (wp_X5_near_56 thr z 1 Q) (m + 1) at_ := by
    intro m
    induction m with
    | zero =>
      intro a ha h1 h2
      show wp_X5_near_56 thr z 1 Q (lq1 (wp_X5_near_56 thr z 1 Q) 0) a
      unfold wp_X5_near_56
      have e : a = 500 := by omega
      subst e
      refine sp_X5_isKey (by decide) (fun _ => ⟨by decide, fun _ => sp_X5_isKey (by decide) (fun _ => ⟨by decide, fun _ => hQ _ (Or.inl ⟨rfl, fun y hy hz => h2 y hy hz (hg.2.1 y hy).2⟩), fun h => absurd rfl h⟩) (fun h => by omega), fun h => absurd rfl h⟩) (fun h => by omega)
    | succ m ih =>
      intro a ha h1 h2
      show wp_X5_near_56 thr z 1 Q (lq1 (wp_X5_near_56 thr z 1 Q) (m + 1)) a
      generalize lq1 (wp_X5_near_56 thr z 1 Q) (m + 1) = K at ih ⊢
      unfold wp_X5_near_56
      refine sp_X5_isKey (by omega) (fun h => by omega) (fun hk => ⟨by decide, fun h => absurd h (by decide), fun _ => ?_⟩)
      refine sp_X5_isPresent (t := 0) hm hg (Nat.zero_le _) (by omega) (fun hn => ⟨by decide, fun h => absurd rfl h, fun _ => ?_⟩) (fun hp => ⟨by decide, fun _ => ?_, fun h => absurd (by decide) h⟩)
      · have := ih (a + 1) (by omega) (by omega) (fun y hy hz hlt hle => by
          by_cases e : y = a
          · subst e; exact hn ⟨hy, hz⟩
          · exact h2 y hy hz (by omega) hle)
        exact this
      · refine sp_X5_isKey (by omega) (fun h => by omega) (fun _ => ⟨by decide, fun h => absurd h (by decide), fun _ => hQ a (Or.inr ⟨hp.1, hp.2, h1, fun y hy hz hle => ?_⟩)⟩)
        by_cases e : a ≤ y
        · exact e
        · exact absurd hle (h2 y hy hz (by omega))
  exact ⟨_, main (500 - lim).toNat lim (by omega) (Int.le_refl _) (fun y _ _ h1 h2 => by omega)⟩
/-- the key with a rank -/
def ab_kat (L : List Int) (mk : Int → Int) (rk r : Int) : Prop := (r = -1 ∧ ∀ y ∈ L, mk y = 0 → ab_rank L mk y ≠ rk) ∨ (r ∈ L ∧ mk r = 0 ∧ ab_rank L mk r = rk)
theorem ab_rank_s : ∀ (L : List Int) (mk : Int → Int) (q : Int), L.Nodup → ab_rank L mk (q + 1) = ab_rank L mk q + (if q ∈ L ∧ mk q = 0 then 1 else 0) := by
  intro L
  induction L with
  | nil => intro mk q _; simp [ab_rank]
  | cons x xs ih =>
    intro mk q hn
    have hn2 := List.nodup_cons.mp hn
    have ih1 := ih mk q hn2.2
    unfold ab_rank at ih1 ⊢
    rw [List.countP_cons, List.countP_cons]
    push_cast
    rw [ih1]
    by_cases he : q = x
    · subst he
      have f1 : ¬ (q ∈ xs ∧ mk q = 0) := fun h => hn2.1 h.1
      have f2 : (q ∈ q :: xs ∧ mk q = 0) ↔ mk q = 0 := by simp
      have f3 : decide (mk q = 0 ∧ q < q) = false := by simp
      have f4 : decide (mk q = 0 ∧ q < q + 1) = decide (mk q = 0) := by
        apply decide_eq_decide.mpr
        omega
      rw [f3, f4]
      simp only [f1, f2]
      by_cases hz : mk q = 0 <;> simp [hz]
    · have e : (q ∈ x :: xs ∧ mk q = 0) ↔ (q ∈ xs ∧ mk q = 0) := by simp [he]
      simp only [e]
      have h1 : decide (mk x = 0 ∧ x < q + 1) = decide (mk x = 0 ∧ x < q) := by
        apply decide_eq_decide.mpr
        omega
      rw [h1]
      omega
theorem ab_rank_mono (L : List Int) (mk : Int → Int) (hn : L.Nodup) (a : Int) (n : Nat) : ab_rank L mk a ≤ ab_rank L mk (a + (n : Int)) := by
  induction n with
  | zero => simp
  | succ n ih =>
    have := ab_rank_s L mk (a + (n : Int)) hn
    rw [show a + ((n + 1 : Nat) : Int) = a + (n : Int) + 1 by omega, this]
    split <;> omega
theorem ab_rank_lt {L : List Int} {mk : Int → Int} (hn : L.Nodup) {a b : Int} (ha : a ∈ L ∧ mk a = 0) (hab : a < b) : ab_rank L mk a < ab_rank L mk b := by
  have h1 := ab_rank_s L mk a hn
  rw [if_pos ha] at h1
  have h2 := ab_rank_mono L mk hn (a + 1) (b - (a + 1)).toNat
  rw [show a + 1 + ((b - (a + 1)).toNat : Int) = b by omega] at h2
  omega
theorem ab_kat_un (hn : L.Nodup) {rk r1 r2 : Int} (h1 : ab_kat L mk rk r1) (h2 : ab_kat L mk rk r2) : r1 = r2 := by
  rcases h1 with ⟨a1, a2⟩ | ⟨a1, a2, a3⟩ <;> rcases h2 with ⟨b1, b2⟩ | ⟨b1, b2, b3⟩
  · omega
  · exact absurd b3 (a2 _ b1 b2)
  · exact absurd a3 (b2 _ a1 a2)
  · rcases Int.lt_trichotomy r1 r2 with h | h | h
    · have := ab_rank_lt hn ⟨a1, a2⟩ h; omega
    · exact h
    · have := ab_rank_lt hn ⟨b1, b2⟩ h; omega
theorem ab_rank_le (L : List Int) (mk : Int → Int) (q : Int) : 0 ≤ ab_rank L mk q ∧ ab_rank L mk q ≤ (L.length : Int) := by
  unfold ab_rank
  have := List.countP_le_length (p := fun y => decide (mk y = 0 ∧ y < q)) (l := L)
  omega
theorem sp_X5_keyAt_22 (hm : ab_mT z 0 L mk) (hg : ab_g L mk) {rk thr : Int} (hr : inR rk) {Q : Int → Int → Prop} (hQ : ∀ r, ab_kat L mk rk r → Q r thr) : ∃ n, lq2 (wp_X5_keyAt_22 thr z rk Q) n (-1) 0 := by
  have hz := hm.1
  have hl := hg.2.2.1
  have main : ∀ (S : List Int) (i : Nat) (p : Int), L.drop i = S → i ≤ L.length → ((p = -1 ∧ ∀ y ∈ L.take i, mk y = 0 → ab_rank L mk y ≠ rk) ∨ (p ∈ L ∧ mk p = 0 ∧ ab_rank L mk p = rk)) → lq2 (wp_X5_keyAt_22 thr z rk Q) (S.length + 1) p (i : Int) := by
    intro S
    induction S with
    | nil =>
      intro i p hS hi hp
      have h9 := ab_drop_nil hS
      show wp_X5_keyAt_22 thr z rk Q (lq2 (wp_X5_keyAt_22 thr z rk Q) 0) p (i : Int)
      unfold wp_X5_keyAt_22
      simp only [hz]
      rw [List.take_of_length_le h9] at hp
      exact ⟨by omega, by omega, fun _ => hQ p hp, fun h => absurd (by omega) h⟩
    | cons x S ih =>
      intro i p hS hi hp
      obtain ⟨hx, hS1, hlt⟩ := ab_drop hS
      obtain ⟨e1, e2, e3, e4, e5, e6⟩ := ab_mrow hm hg hx
      show wp_X5_keyAt_22 thr z rk Q (lq2 (wp_X5_keyAt_22 thr z rk Q) (S.length + 1)) p (i : Int)
      generalize lq2 (wp_X5_keyAt_22 thr z rk Q) (S.length + 1) = K at ih ⊢
      have ei : ((1 : Int) + (i : Int)).toNat = 0 + 1 + i := by omega
      have em : ((121 : Int) + (i : Int)).toNat = 0 + 121 + i := by omega
      have nx : ∀ p, ((p = -1 ∧ ∀ y ∈ L.take (i + 1), mk y = 0 → ab_rank L mk y ≠ rk) ∨ (p ∈ L ∧ mk p = 0 ∧ ab_rank L mk p = rk)) → K p ((i : Int) + 1) := by
        intro p a
        have := ih (i + 1) p hS1 (by omega) a
        push_cast at this
        exact this
      have hrk := ab_rank_le L mk x
      unfold wp_X5_keyAt_22
      simp only [hz, ei, em, e1, e2]
      refine ⟨by omega, by omega, fun h => absurd h (by omega), fun _ => ⟨by omega, by omega, by omega, fun h => nx p ?_, fun h => sp_X5_rankOf (t := 0) hm hg (Nat.zero_le _) (by omega) ⟨by omega, hr, fun h2 => nx p ?_, fun h2 => nx x (Or.inr ⟨e3, by omega, by omega⟩)⟩⟩⟩
      · refine hp.imp (fun q => ⟨q.1, fun y hy hz1 => ?_⟩) id
        rcases (ab_mem_take hx).mp hy with hy | hy
        · exact q.2 y hy hz1
        · subst hy; exact absurd hz1 h
      · refine hp.imp (fun q => ⟨q.1, fun y hy hz1 => ?_⟩) id
        rcases (ab_mem_take hx).mp hy with hy | hy
        · exact q.2 y hy hz1
        · subst hy; exact h2
  exact ⟨_, main L 0 (-1) rfl (Nat.zero_le _) (Or.inl ⟨rfl, fun y hy => absurd hy List.not_mem_nil⟩)⟩
end PX5
