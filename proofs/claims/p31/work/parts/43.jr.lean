/-! at the exchange the second tree has the same present keys as the tree: list and queue, played to their ends, give the tree's present keys -/
def jr_s (P : Int → Prop) (a k : Int) : Prop := if a < 500 then (k = a ∨ P k) else (k ≠ a - 500 ∧ P k)
def jr_p : (Int → Prop) → List Int → Int → Prop
  | P, [], k => P k
  | P, a :: q, k => jr_p (jr_s P a) q k
theorem jr_s_congr {P P1 : Int → Prop} {a : Int} (h : ∀ k, 0 ≤ k → k < 500 → (P k ↔ P1 k)) : ∀ k, 0 ≤ k → k < 500 → (jr_s P a k ↔ jr_s P1 a k) := by
  intro k h0 h1
  unfold jr_s
  split
  · rw [h k h0 h1]
  · rw [h k h0 h1]
theorem jr_p_congr : ∀ (q : List Int) (P P1 : Int → Prop), (∀ k, 0 ≤ k → k < 500 → (P k ↔ P1 k)) → ∀ k, 0 ≤ k → k < 500 → (jr_p P q k ↔ jr_p P1 q k) := by
  intro q
  induction q with
  | nil => intro P P1 h k h0 h1; exact h k h0 h1
  | cons a q ih => intro P P1 h k h0 h1; exact ih _ _ (jr_s_congr h) k h0 h1
theorem jr_p_app : ∀ (q : List Int) (P : Int → Prop) (a k : Int), jr_p P (q ++ [a]) k ↔ jr_s (fun k => jr_p P q k) a k := by
  intro q
  induction q with
  | nil => intro P a k; exact Iff.rfl
  | cons b q ih => intro P a k; exact ih (jr_s P b) a k
theorem jr_tput (T : aT) (a k : Int) : ab_pres (ab_tput T a) k ↔ (k = a ∨ ab_pres T k) := by
  unfold ab_tput
  show (k ∈ ab_put T.1 a ∧ uM T.2 a 0 k = 0) ↔ (k = a ∨ (k ∈ T.1 ∧ T.2 k = 0))
  rw [ab_put_mem]
  unfold uM
  by_cases h : k = a
  · rw [if_pos h]
    exact ⟨fun _ => Or.inl h, fun _ => ⟨Or.inr h, rfl⟩⟩
  · rw [if_neg h]
    constructor
    · rintro ⟨h1 | h1, h2⟩
      · exact Or.inr ⟨h1, h2⟩
      · exact absurd h1 h
    · rintro (h1 | h1)
      · exact absurd h1 h
      · exact ⟨Or.inl h1.1, h1.2⟩
theorem jr_tact (T : aT) (a k : Int) : ab_pres (ab_tact T a) k ↔ jr_s (ab_pres T) a k := by
  unfold ab_tact jr_s
  by_cases ha : a < 500
  · rw [if_pos ha, if_pos ha]
    exact jr_tput T a k
  · rw [if_neg ha, if_neg ha]
    unfold ab_tmark
    show (k ∈ T.1 ∧ (if a - 500 ∈ T.1 then uM T.2 (a - 500) 1 else T.2) k = 0) ↔ (k ≠ a - 500 ∧ (k ∈ T.1 ∧ T.2 k = 0))
    by_cases hm : a - 500 ∈ T.1
    · rw [if_pos hm]
      unfold uM
      by_cases h : k = a - 500
      · rw [if_pos h]
        exact ⟨fun q => absurd q.2 (by decide), fun q => absurd h q.1⟩
      · rw [if_neg h]
        exact ⟨fun q => ⟨h, q⟩, fun q => q.2⟩
    · rw [if_neg hm]
      exact ⟨fun q => ⟨fun e => hm (e ▸ q.1), q⟩, fun q => q.2⟩
abbrev jr_b (A : aS) : Int → Prop := fun k => ab_pres (as_U A) k ∨ k ∈ (as_L A).drop (as_C A)
def jr_I (A : aS) : Prop := as_R A = 1 → ∀ k, 0 ≤ k → k < 500 → (ab_pres (as_T A) k ↔ jr_p (jr_b A) (as_Q A) k)
theorem jr_tk {A : aS} (h : jr_I A) (hr : as_R A = 1) : jr_I (ab_tk A).2 := by
  intro _ k h0 h1
  have hk := h hr k h0 h1
  unfold ab_tk
  by_cases hc : as_C A < (as_L A).length
  · rw [if_pos hc]
    show ab_pres (as_T A) k ↔ jr_p (fun k => ab_pres (ab_tput (as_U A) ((as_L A).getD (as_C A) 0)) k ∨ k ∈ (as_L A).drop (as_C A + 1)) (as_Q A) k
    rw [hk]
    refine jr_p_congr (as_Q A) _ _ (fun j _ _ => ?_) k h0 h1
    have e : (as_L A).drop (as_C A) = (as_L A).getD (as_C A) 0 :: (as_L A).drop (as_C A + 1) := by
      rw [List.drop_eq_getElem_cons hc, List.getD_eq_getElem?_getD, List.getElem?_eq_getElem hc]
      rfl
    show (ab_pres (as_U A) j ∨ j ∈ (as_L A).drop (as_C A)) ↔ (ab_pres (ab_tput (as_U A) ((as_L A).getD (as_C A) 0)) j ∨ j ∈ (as_L A).drop (as_C A + 1))
    rw [e, jr_tput, List.mem_cons]
    constructor
    · rintro (q | q | q)
      · exact Or.inl (Or.inr q)
      · exact Or.inl (Or.inl q)
      · exact Or.inr q
    · rintro ((q | q) | q)
      · exact Or.inr (Or.inl q)
      · exact Or.inl q
      · exact Or.inr (Or.inr q)
  · rw [if_neg hc]
    have e : (as_L A).drop (as_C A) = [] := List.drop_eq_nil_iff.mpr (by omega)
    cases hq : as_Q A with
    | nil =>
      show ab_pres (as_T A) k ↔ jr_p (jr_b A) (as_Q A) k
      exact hk
    | cons a q =>
      show ab_pres (as_T A) k ↔ jr_p (fun k => ab_pres (ab_tact (as_U A) a) k ∨ k ∈ (as_L A).drop (as_C A)) q k
      rw [hk, hq]
      show jr_p (jr_s (jr_b A) a) q k ↔ _
      refine jr_p_congr q _ _ (fun j g0 g1 => ?_) k h0 h1
      show jr_s (jr_b A) a j ↔ (ab_pres (ab_tact (as_U A) a) j ∨ j ∈ (as_L A).drop (as_C A))
      rw [e, jr_tact]
      have h9 := jr_s_congr (P := jr_b A) (P1 := ab_pres (as_U A)) (a := a) (fun i _ _ => by
        show (ab_pres (as_U A) i ∨ i ∈ (as_L A).drop (as_C A)) ↔ ab_pres (as_U A) i
        rw [e]
        simp) j g0 g1
      rw [h9]
      simp
theorem jr_st {A : aS} {b : Int} (h : jr_I A) (hI : ab_I b A) (hr : as_R A = 1) : jr_I (ab_st A).2 ∧ (∀ k, 0 ≤ k → k < 500 → (ab_pres (as_T (ab_st A).2) k ↔ ab_pres (as_T A) k)) ∧ (∀ x ∈ (as_T (ab_st A).2).1, x ∈ (as_T A).1) := by
  have h1 := jr_tk h hr
  obtain ⟨i1, i2, i3, i4, i5, i6⟩ := ab_I_tk hI hr
  unfold ab_st
  by_cases hc : as_C (ab_tk A).2 = (as_L (ab_tk A).2).length ∧ as_Q (ab_tk A).2 = []
  · rw [if_pos hc]
    refine ⟨fun q => absurd q (by show ¬ (0 : Int) = 1; decide), fun k h0 h2 => ?_, fun x hx => ?_⟩
    · have h3 := h1 i2 k h0 h2
      rw [i6, hc.2] at h3
      have e : (as_L (ab_tk A).2).drop (as_C (ab_tk A).2) = [] := List.drop_eq_nil_iff.mpr (by omega)
      show ab_pres (as_U (ab_tk A).2) k ↔ ab_pres (as_T A) k
      rw [h3]
      show ab_pres (as_U (ab_tk A).2) k ↔ (ab_pres (as_U (ab_tk A).2) k ∨ k ∈ (as_L (ab_tk A).2).drop (as_C (ab_tk A).2))
      rw [e]
      simp
    · have h4 := i1.2.2.2.2.1.1 x hx
      rw [i6] at h4
      exact h4
  · rw [if_neg hc]
    exact ⟨h1, fun k _ _ => by rw [i6], fun x hx => by rw [i6] at hx; exact hx⟩
theorem jr_adv : ∀ (n : Nat) (w : Int) (A : aS) (b : Int), jr_I A → ab_I b A → jr_I (ab_adv n w A).2 ∧ (∀ k, 0 ≤ k → k < 500 → (ab_pres (as_T (ab_adv n w A).2) k ↔ ab_pres (as_T A) k)) ∧ (∀ x ∈ (as_T (ab_adv n w A).2).1, x ∈ (as_T A).1) := by
  intro n
  induction n with
  | zero => intro w A b h hI; exact ⟨h, fun k _ _ => Iff.rfl, fun x hx => hx⟩
  | succ n ih =>
    intro w A b h hI
    unfold ab_adv
    by_cases hr : as_R A = 1
    · rw [if_pos hr]
      obtain ⟨g1, g2, g3⟩ := jr_st h hI hr
      obtain ⟨k1, k2, k3⟩ := ih (w + (ab_st A).1) (ab_st A).2 (b + 1) g1 (ab_I_st hI hr).1
      exact ⟨k1, fun k h0 h1 => (k2 k h0 h1).trans (g2 k h0 h1), fun x hx => g3 x (k3 x hx)⟩
    · rw [if_neg hr]
      exact ⟨h, fun k _ _ => Iff.rfl, fun x hx => hx⟩
/-- every present key stands in the list -/
theorem jr_pre {L : List Int} {mk : Int → Int} {x : Nat} (hx : (x : Int) ∈ L ∧ mk (x : Int) = 0) : ∀ q : Nat, x < q → (x : Int) ∈ ab_pre L mk q := by
  intro q
  induction q with
  | zero => intro h; omega
  | succ q ih =>
    intro h
    rw [show ab_pre L mk (q + 1) = ab_pre L mk q ++ (if (q : Int) ∈ L ∧ mk (q : Int) = 0 then [(q : Int)] else []) from rfl]
    by_cases hq : x < q
    · exact List.mem_append_left _ (ih hq)
    · have e : x = q := by omega
      subst e
      rw [if_pos hx]
      exact List.mem_append_right _ List.mem_cons_self
theorem jr_lst {L : List Int} {mk : Int → Int} {k : Int} (h0 : 0 ≤ k) (h1 : k < 500) (hk : k ∈ L ∧ mk k = 0) : k ∈ ab_lst L mk := by
  obtain ⟨x, rfl⟩ := Int.eq_ofNat_of_zero_le h0
  have hm := jr_pre (L := L) (mk := mk) (x := x) hk 500 (by omega)
  obtain ⟨i, hi⟩ := List.getElem?_of_mem hm
  have hlt : i < (ab_srt L mk).length := (List.getElem?_eq_some_iff.mp hi).1
  unfold ab_lst
  refine List.mem_map.mpr ⟨i, ?_, ?_⟩
  · refine (ab_mid_perm (ab_srt L mk).length 0 (ab_srt L mk).length (by omega)).mem_iff.mpr ?_
    rw [List.mem_range'_1]
    omega
  · rw [List.getD_eq_getElem?_getD, hi]
    rfl
theorem jr_beg {A : aS} : jr_I (ab_beg A) := by
  have hm : ∀ k, 0 ≤ k → k < 500 → (ab_pres (as_T A) k ↔ k ∈ ab_lst (as_T A).1 (as_T A).2) := fun k h0 h1 => ⟨fun h => jr_lst h0 h1 h, fun h => ab_lst_mem h⟩
  unfold ab_beg
  generalize ab_lst (as_T A).1 (as_T A).2 = l9 at hm ⊢
  intro _ k h0 h1
  show ab_pres (as_T A) k ↔ (ab_pres ab_e0 k ∨ k ∈ l9.drop 0)
  rw [List.drop_zero, hm k h0 h1]
  exact ⟨Or.inr, fun h => h.elim (fun q => absurd q.1 List.not_mem_nil) id⟩
theorem jr_beg1 {A : aS} (h : jr_I A) : jr_I (ab_beg1 A) ∧ as_T (ab_beg1 A) = as_T A := by
  unfold ab_beg1
  split
  · exact ⟨jr_beg, rfl⟩
  · exact ⟨h, rfl⟩
theorem jr_fin {A : aS} {w : Int} (h : jr_I A) : jr_I (ab_fin A w) ∧ as_T (ab_fin A w) = as_T A := by
  obtain ⟨h1, h2⟩ := jr_beg1 h
  unfold ab_fin
  exact ⟨fun q => h1 q, h2⟩
theorem jr_abn (A : aS) : jr_I (ab_abn A) := fun q => absurd q (by show ¬ (0 : Int) = 1; decide)
theorem jr_p2 {A : aS} {a : Int} (h : jr_I A) : jr_I (ab_p2 A a) ∧ as_T (ab_p2 A a) = ab_tact (as_T A) a := by
  unfold ab_p2
  by_cases hc : as_R A = 1 ∧ ab_chg (as_T A) a
  · rw [if_pos hc]
    unfold ab_q
    split
    · exact ⟨jr_abn _, rfl⟩
    · refine ⟨fun _ k h0 h1 => ?_, rfl⟩
      show ab_pres (ab_tact (as_T A) a) k ↔ jr_p (jr_b A) (as_Q A ++ [a]) k
      rw [jr_tact, jr_p_app]
      exact jr_s_congr (fun j g0 g1 => h hc.1 j g0 g1) k h0 h1
  · rw [if_neg hc]
    refine ⟨fun hr k h0 h1 => ?_, rfl⟩
    have hr : as_R A = 1 := hr
    have hn : ¬ ab_chg (as_T A) a := fun q => hc ⟨hr, q⟩
    show ab_pres (ab_tact (as_T A) a) k ↔ jr_p (jr_b A) (as_Q A) k
    rw [← h hr k h0 h1, jr_tact]
    unfold ab_chg at hn
    unfold jr_s
    by_cases ha : a < 500
    · rw [if_pos ha] at hn ⊢
      have hp : ab_pres (as_T A) a := Classical.not_not.mp hn
      exact ⟨fun q => q.elim (fun e => e ▸ hp) id, Or.inr⟩
    · rw [if_neg ha] at hn ⊢
      exact ⟨fun q => q.2, fun q => ⟨fun e => hn (e ▸ q), q⟩⟩
/-- an act: the invariant, the key's presence, at most one node more -/
theorem jr_act {A : aS} {a b : Int} (h : jr_I A) (hI : ab_I b A) (hok : ab_ok (as_T A) a) : jr_I (ab_act A a).2 ∧ (a ≠ -1 → ∀ k, 0 ≤ k → k < 500 → (ab_pres (as_T (ab_act A a).2) k ↔ jr_s (ab_pres (as_T A)) a k)) ∧ (as_T (ab_act A a).2).1.length ≤ (as_T A).1.length + 1 := by
  have hg := (ab_I_act hI hok).1.1.1
  have hlen : ∀ (l : List Int), (∀ x ∈ (as_T (ab_act A a).2).1, x ∈ l) → (as_T (ab_act A a).2).1.length ≤ l.length := fun l hl => List.Nodup.length_le_of_subset hg hl
  revert hlen
  unfold ab_act
  by_cases ha : a = -1
  · rw [if_pos ha]
    obtain ⟨g1, g2, g3⟩ := jr_adv (as_E A 2).toNat 0 A b h hI
    obtain ⟨f1, f2⟩ := jr_fin (w := (ab_adv (as_E A 2).toNat 0 A).1) g1
    intro hlen
    refine ⟨f1, fun q => absurd ha q, ?_⟩
    have := hlen (as_T A).1 (fun x hx => by
      have hx : x ∈ (as_T (ab_fin (ab_adv (as_E A 2).toNat 0 A).2 (ab_adv (as_E A 2).toNat 0 A).1)).1 := hx
      rw [f2] at hx
      exact g3 x hx)
    omega
  · rw [if_neg ha]
    obtain ⟨p1, p2⟩ := jr_p2 (a := a) h
    obtain ⟨g1, g2, g3⟩ := jr_adv (as_E A 2).toNat (ab_dep (as_T A).1 (a % 500)) (ab_p2 A a) b p1 (ab_I_p2 hI hok ha)
    obtain ⟨f1, f2⟩ := jr_fin (w := (ab_adv (as_E A 2).toNat (ab_dep (as_T A).1 (a % 500)) (ab_p2 A a)).1) g1
    intro hlen
    refine ⟨f1, fun _ k h0 h1 => ?_, ?_⟩
    · show ab_pres (as_T (ab_fin (ab_adv (as_E A 2).toNat (ab_dep (as_T A).1 (a % 500)) (ab_p2 A a)).2 (ab_adv (as_E A 2).toNat (ab_dep (as_T A).1 (a % 500)) (ab_p2 A a)).1)) k ↔ _
      rw [f2, g2 k h0 h1, p2, jr_tact]
    · have h9 := hlen (ab_tact (as_T A) a).1 (fun x hx => by
        have hx : x ∈ (as_T (ab_fin (ab_adv (as_E A 2).toNat (ab_dep (as_T A).1 (a % 500)) (ab_p2 A a)).2 (ab_adv (as_E A 2).toNat (ab_dep (as_T A).1 (a % 500)) (ab_p2 A a)).1)).1 := hx
        rw [f2] at hx
        have := g3 x hx
        rw [p2] at this
        exact this)
      refine Nat.le_trans h9 ?_
      unfold ab_tact
      split
      · show (ab_put (as_T A).1 a).length ≤ _
        unfold ab_put
        split
        · omega
        · rw [List.length_append, List.length_singleton]
          exact Nat.le_refl _
      · exact Nat.le_succ _
/-- what idle() leaves of the counts -/
theorem jr_adv_N : ∀ (n : Nat) (w : Int) (A : aS) (b : Int), ab_I b A → as_N (ab_adv n w A).2 2 = as_N A 2 ∧ as_N (ab_adv n w A).2 3 = as_N A 3 := by
  intro n
  induction n with
  | zero => intro w A b hI; exact ⟨rfl, rfl⟩
  | succ n ih =>
    intro w A b hI
    unfold ab_adv
    by_cases hr : as_R A = 1
    · rw [if_pos hr]
      obtain ⟨k1, k2⟩ := ih (w + (ab_st A).1) (ab_st A).2 (b + 1) (ab_I_st hI hr).1
      obtain ⟨i1, i2, i3, i4, i5, i6⟩ := ab_I_tk hI hr
      have e : as_N (ab_st A).2 2 = as_N A 2 ∧ as_N (ab_st A).2 3 = as_N A 3 := by
        unfold ab_st
        split
        · show uI (as_N (ab_tk A).2) 5 (as_N (ab_tk A).2 5 + 1) 2 = as_N A 2 ∧ uI (as_N (ab_tk A).2) 5 (as_N (ab_tk A).2 5 + 1) 3 = as_N A 3
          rw [i5]
          exact ⟨rfl, rfl⟩
        · rw [i5]
          exact ⟨rfl, rfl⟩
      exact ⟨k1.trans e.1, k2.trans e.2⟩
    · rw [if_neg hr]
      exact ⟨rfl, rfl⟩
theorem jr_beg1_N (A : aS) : as_N (ab_beg1 A) 2 = as_N A 2 ∧ as_N (ab_beg1 A) 3 = as_N A 3 := by
  unfold ab_beg1
  split
  · exact ⟨rfl, rfl⟩
  · exact ⟨rfl, rfl⟩
theorem jr_idle_N {A : aS} {b : Int} (hI : ab_I b A) : as_N (ab_act A (-1)).2 0 = (ab_act A (-1)).1 ∧ as_N (ab_act A (-1)).2 3 = as_N A 3 + 1 ∧ as_N (ab_act A (-1)).2 2 = as_N A 2 + (ab_act A (-1)).1 ∧ (ab_act A (-1)).1 ≤ as_N (ab_act A (-1)).2 1 := by
  have e0 := ab_act_N0 A (-1)
  obtain ⟨a1, a2⟩ := jr_adv_N (as_E A 2).toNat 0 A b hI
  obtain ⟨b1, b2⟩ := jr_beg1_N (ab_adv (as_E A 2).toNat 0 A).2
  refine ⟨e0, ?_, ?_, ?_⟩
  · unfold ab_act
    rw [if_pos rfl]
    show as_N (ab_beg1 (ab_adv (as_E A 2).toNat 0 A).2) 3 + 1 = as_N A 3 + 1
    rw [b2, a2]
  · unfold ab_act
    rw [if_pos rfl]
    show as_N (ab_beg1 (ab_adv (as_E A 2).toNat 0 A).2) 2 + (ab_adv (as_E A 2).toNat 0 A).1 = as_N A 2 + (ab_adv (as_E A 2).toNat 0 A).1
    rw [b1, a1]
  · unfold ab_act
    rw [if_pos rfl]
    show (ab_adv (as_E A 2).toNat 0 A).1 ≤ max (as_N (ab_beg1 (ab_adv (as_E A 2).toNat 0 A).2) 1) (ab_adv (as_E A 2).toNat 0 A).1
    omega
