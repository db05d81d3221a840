/-! the class' acts over the state -/
theorem ab_cpI0 {f g : Nat → Int} {n i : Nat} (h : i < n) : cpI f g 0 0 n i = f i := by
  unfold cpI
  rw [if_pos (by omega)]
  simp
theorem ab_mulb {a b : Int} (h1 : 0 ≤ a ∧ a ≤ 100) (h2 : 0 ≤ b ∧ b ≤ 120) : 0 ≤ a * b ∧ a * b ≤ 12000 := by
  refine ⟨Int.mul_nonneg h1.1 h2.1, ?_⟩
  have := Int.mul_le_mul h1.2 h2.2 h2.1 (by decide : (0 : Int) ≤ 100)
  omega
theorem ab_dmax_le {L : List Int} {mk : Int → Int} (hg : ab_g L mk) : 0 ≤ ab_dmax L ∧ ab_dmax L ≤ 120 := by
  unfold ab_dmax
  have : ∀ (S : List Int) (g : Int), 0 ≤ g ∧ g ≤ 120 → 0 ≤ S.foldl (fun g y => max g (ab_dep L y)) g ∧ S.foldl (fun g y => max g (ab_dep L y)) g ≤ 120 := by
    intro S
    induction S with
    | nil => intro g h; exact h
    | cons x S ih =>
      intro g h
      have hd := ab_dep_le hg x
      exact ih _ (by show 0 ≤ max g (ab_dep L x) ∧ max g (ab_dep L x) ≤ 120; omega)
  exact this L 0 (by decide)
theorem ab_adv_w : ∀ (n : Nat) (w : Int) (A : aS), (ab_adv n w A).1 = w + (ab_adv n 0 A).1 ∧ (ab_adv n w A).2 = (ab_adv n 0 A).2 := by
  intro n
  induction n with
  | zero => intro w A; exact ⟨by simp [ab_adv], rfl⟩
  | succ n ih =>
    intro w A
    unfold ab_adv
    by_cases h : as_R A = 1
    · rw [if_pos h, if_pos h]
      have h1 := ih (w + (ab_st A).1) (ab_st A).2
      have h2 := ih (0 + (ab_st A).1) (ab_st A).2
      refine ⟨by omega, by rw [h1.2, h2.2]⟩
    · rw [if_neg h, if_neg h]
      exact ⟨by simp, rfl⟩
section PJ
variable {n nl nc nw ru ns : Int} {k d m ks ds ms li qu se co : Nat → Int} {A : aS} {b : Int}
theorem sp_X3_becomeCopyOf {nT nO : Int} {kT dT mT kO dO mO : Nat → Int} {L : List Int} {mk : Int → Int} (hc : ab_cT nO kO dO mO L mk) (hg : ab_g L mk) {Q : Int → (Nat → Int) → (Nat → Int) → (Nat → Int) → Prop}
    (hQ : ∀ k d m, ab_cT nO k d m L mk → Q nO k d m) : wp_X3_becomeCopyOf nT kT dT mT nO kO dO mO Q := by
  obtain ⟨hn, hn2, hn3⟩ := ab_len hc hg
  unfold wp_X3_becomeCopyOf
  refine ⟨by omega, by omega, by omega, by omega, by omega, by omega, fun i hi => ?_, hQ _ _ _ ⟨hc.1, fun i x dx h => ?_⟩⟩
  · rw [Nat.zero_add]
    exact ab_marks hc hg i (by omega)
  · have hlt := (List.getElem?_eq_some_iff.mp h).1
    rw [ab_cpI0 (by omega), ab_cpI0 (by omega), ab_cpI0 (by omega)]
    exact hc.2 i x dx h
theorem sp_X1_becomeCopyOf {nlO ncO nwO ruO nOs : Int} {kO dO mO liO quO : Nat → Int} (hc : ab_CJ nlO ncO nwO ruO nOs kO dO mO liO quO A) (hI : ab_I b A) {Q : Int → Int → Int → Int → Int → (Nat → Int) → (Nat → Int) → (Nat → Int) → (Nat → Int) → (Nat → Int) → Prop}
    (hQ : ∀ ks ds ms li qu, ab_CJ nlO ncO nwO ruO nOs ks ds ms li qu A → Q nlO ncO nwO ruO nOs ks ds ms li qu) : wp_X1_becomeCopyOf nl nc nw ru ns ks ds ms li qu nlO ncO nwO ruO nOs kO dO mO liO quO Q := by
  obtain ⟨h1, h2, h3, h4, h5, h6, h7⟩ := hc
  have i3 := hI.2.2.1
  unfold wp_X1_becomeCopyOf
  refine sp_X3_becomeCopyOf h1 hI.2.1 (fun k d m h => ⟨by omega, by omega, by omega, by omega, by omega, hQ _ _ _ _ _ ⟨h, h2, h3, h4, h5, fun i x hx => ?_, fun i x hx => ?_⟩⟩)
  · have hlt := (List.getElem?_eq_some_iff.mp hx).1
    rw [ab_cpI0 (by omega)]
    exact h6 i x hx
  · have hlt := (List.getElem?_eq_some_iff.mp hx).1
    rw [ab_cpI0 (by omega)]
    exact h7 i x hx
theorem sp_X2_becomeCopyOf {nO nlO ncO nwO ruO nOs : Int} {kO dO mO ksO dsO msO liO quO seO coO : Nat → Int} (hc : ab_CS nO kO dO mO nlO ncO nwO ruO nOs ksO dsO msO liO quO seO coO A) (hI : ab_I b A)
    {Q : Int → (Nat → Int) → (Nat → Int) → (Nat → Int) → Int → Int → Int → Int → Int → (Nat → Int) → (Nat → Int) → (Nat → Int) → (Nat → Int) → (Nat → Int) → (Nat → Int) → (Nat → Int) → Prop}
    (hQ : ∀ k d m ks ds ms li qu se co, ab_CS nO k d m nlO ncO nwO ruO nOs ks ds ms li qu se co A → Q nO k d m nlO ncO nwO ruO nOs ks ds ms li qu se co) :
    wp_X2_becomeCopyOf n k d m nl nc nw ru ns ks ds ms li qu se co nO kO dO mO nlO ncO nwO ruO nOs ksO dsO msO liO quO seO coO Q := by
  obtain ⟨h1, h2, h3, h4⟩ := hc
  unfold wp_X2_becomeCopyOf
  refine sp_X3_becomeCopyOf h1 hI.1 (fun k d m g1 => sp_X1_becomeCopyOf h2 hI (fun ks ds ms li qu g2 => ⟨by decide, by decide, by decide, by decide, hQ _ _ _ _ _ _ _ _ _ _ ⟨g1, g2, fun i hi => ?_, fun i hi => ?_⟩⟩))
  · rw [ab_cpI0 hi]; exact h3 i hi
  · rw [ab_cpI0 hi]; exact h4 i hi
/-- a change of the second tree -/
theorem sp_X3_changeBy {nT : Int} {kT dT mT : Nat → Int} {T : aT} (hc : ab_cT nT kT dT mT T.1 T.2) (hg : ab_g T.1 T.2) {a : Int} (ha : 0 ≤ a ∧ a < 1000) (hok : a % 500 ∈ T.1 ∨ T.1.length < 120 ∨ 500 ≤ a) {Q : Int → Int → (Nat → Int) → (Nat → Int) → (Nat → Int) → Prop}
    (hQ : ∀ r k d m, (r = 0 ∨ r = 1) → (r = 1 ↔ ab_chg T a) → ab_cT ((ab_tact T a).1.length : Int) k d m (ab_tact T a).1 (ab_tact T a).2 → Q r ((ab_tact T a).1.length : Int) k d m) : wp_X3_changeBy nT kT dT mT a Q := by
  unfold ab_tact ab_chg at hQ
  by_cases h : a < 500
  · simp only [if_pos h] at hQ
    rw [show a % 500 = a by omega] at hok
    refine sp_X3_changeBy_add hc hg (by omega) (hok.imp id (fun q => q.resolve_right (by omega))) (fun k d m g => hQ _ k d m ?_ ?_ g)
    · split <;> simp
    · by_cases hp : a ∈ T.1 ∧ T.2 a = 0
      · simp [hp]
      · rw [if_neg hp]
        exact ⟨fun _ => hp, fun _ => rfl⟩
  · simp only [if_neg h] at hQ
    have := sp_X3_changeBy_rem hc hg (key := a - 500) (by omega) (Q := Q) (fun k d m g => hQ _ k d m (by split <;> simp) (by
      by_cases hp : a - 500 ∈ T.1 ∧ T.2 (a - 500) = 0
      · rw [if_pos hp]
        exact ⟨fun _ => hp, fun _ => rfl⟩
      · rw [if_neg hp]
        exact ⟨fun q => absurd q (by decide), fun q => absurd q hp⟩) g)
    rw [show a - 500 + 500 = a by omega] at this
    exact this
theorem sp_X1_takeStep (hC : ab_CJ nl nc nw ru ns ks ds ms li qu A) (hI : ab_I b A) {Q : Int → Int → Int → Int → (Nat → Int) → (Nat → Int) → (Nat → Int) → (Nat → Int) → Prop}
    (hQ : ∀ nc nw ns ks ds ms qu, ab_CJ nl nc nw ru ns ks ds ms li qu (ab_tk A).2 → Q (ab_tk A).1 nc nw ns ks ds ms qu) : wp_X1_takeStep nl nc nw ns ks ds ms li qu Q := by
  obtain ⟨h1, h2, h3, h4, h5, h6, h7⟩ := hC
  have i3 := hI.2.2.1
  have i5 := hI.2.2.2.2.1
  unfold ab_tk at hQ
  unfold wp_X1_takeStep
  by_cases hc : as_C A < (as_L A).length
  · simp only [if_pos hc] at hQ
    refine ⟨by omega, by omega, fun h => absurd h (by omega), fun _ => ⟨by omega, ?_⟩⟩
    have hg := ab_getD hc
    have hm := i5.2.1 _ (List.mem_of_getElem? hg)
    have hk := hI.1.2.1 _ hm
    have hl : li nc.toNat = (as_L A).getD (as_C A) 0 := by
      rw [h3, Int.toNat_natCast]
      exact h6 _ _ hg
    rw [hl]
    generalize (as_L A).getD (as_C A) 0 = key at *
    refine sp_X3_changeBy h1 hI.2.1 (by omega) ?_ (fun r k d m _ _ g => ?_)
    · rw [show key % 500 = key by omega]
      exact (ab_room hI hm).imp id Or.inl
    · have et : ab_tact (as_U A) key = ab_tput (as_U A) key := by unfold ab_tact; rw [if_pos (by omega)]
      rw [et] at g ⊢
      exact hQ _ _ _ _ _ _ _ ⟨g, h2, by rw [h3]; push_cast; rfl, h4, h5, h6, h7⟩
  · simp only [if_neg hc] at hQ
    refine ⟨by omega, by omega, fun _ => ⟨by omega, fun h => ?_, fun h => ?_⟩, fun h => absurd (by omega) h⟩
    · have hq : as_Q A = [] := List.length_eq_zero_iff.mp (by omega)
      rw [hq] at hQ
      exact hQ _ _ _ _ _ _ _ ⟨h1, h2, h3, h4, h5, h6, h7⟩
    · cases hq : as_Q A with
      | nil => rw [hq] at h4; simp at h4; omega
      | cons a q =>
        rw [hq] at hQ h4
        simp only [List.length_cons] at h4
        have ha := i5.2.2 a (by rw [hq]; exact List.mem_cons_self)
        have hq0 : qu 0 = a := h7 0 a (by rw [hq]; rfl)
        unfold wp_X1_dequeue
        rw [hq0]
        have i3q : q.length + 1 ≤ 30 := by
          have := i3.2.2.1
          rw [hq, List.length_cons] at this
          exact this
        refine ⟨by omega, by omega, sp_X3_visitsFor h1 hI.2.1 ha.1 ?_⟩
        refine sp_X3_changeBy h1 hI.2.1 ha.1 ((ab_room hI ha.2).imp id Or.inl) (fun r k d m _ _ g => ?_)
        refine hQ _ _ _ _ _ _ _ ⟨g, h2, h3, by show nw - 1 = (q.length : Int); omega, h5, h6, fun i x hx => ?_⟩
        have hlt : i < q.length := (List.getElem?_eq_some_iff.mp hx).1
        unfold cpI
        rw [if_pos (by omega)]
        have := h7 (i + 1) x (by rw [hq, List.getElem?_cons_succ]; exact hx)
        rw [show 1 + (i - 0) = i + 1 by omega]
        exact this
theorem sp_X1_isComplete (hC : ab_CJ nl nc nw ru ns ks ds ms li qu A) (hI : ab_I b A) {Q : Int → Prop} (hQ1 : (as_C A = (as_L A).length ∧ as_Q A = []) → Q 1) (hQ2 : ¬ (as_C A = (as_L A).length ∧ as_Q A = []) → Q 0) : wp_X1_isComplete nl nc nw Q := by
  obtain ⟨h1, h2, h3, h4, h5, h6, h7⟩ := hC
  have i3 := hI.2.2.1
  unfold wp_X1_isComplete
  refine ⟨by omega, by omega, fun h => hQ2 (fun q => by omega), fun h => ⟨by omega, fun h8 => hQ2 (fun q => ?_), fun h8 => hQ1 ⟨by omega, List.length_eq_zero_iff.mp (by omega)⟩⟩⟩
  rw [q.2] at h4
  simp at h4
  omega
theorem ab_CS_ru (hC : ab_CS n k d m nl nc nw ru ns ks ds ms li qu se co A) : ru = as_R A := hC.2.1.2.2.2.2.1
theorem sp_X4_exchangeTrees (hC : ab_CS n k d m nl nc nw ru ns ks ds ms li qu se co A) (hI : ab_I b A) {Q : Int → (Nat → Int) → (Nat → Int) → (Nat → Int) → Int → Int → Int → Int → Int → (Nat → Int) → Prop}
    (hQ : ∀ n k d m nl nc nw ru ns co, ab_CS n k d m nl nc nw ru ns ks ds ms li qu se co (ab_exc A) → Q n k d m nl nc nw ru ns co) : wp_X4_exchangeTrees n k d m nl nc nw ru ns ks ds ms co Q := by
  obtain ⟨h1, h2, h3, h4⟩ := hC
  unfold wp_X4_exchangeTrees wp_X1_stop
  refine sp_X3_becomeCopyOf h2.1 hI.2.1 (fun k d m g => hQ _ _ _ _ _ _ _ _ _ _ ⟨g, ⟨⟨rfl, fun i x dx h => (by cases h)⟩, rfl, rfl, rfl, rfl, fun i x h => (by cases h), fun i x h => (by cases h)⟩, h3, fun i hi => ?_⟩)
  show uI co 5 (co 5 + 1) i = uI (as_N A) 5 (as_N A 5 + 1) i
  unfold uI
  split
  · rw [h4 5 (by decide)]
  · exact h4 i hi
theorem sp_X4_abandonJob (hC : ab_CS n k d m nl nc nw ru ns ks ds ms li qu se co A) {Q : Int → Int → Int → Int → Int → (Nat → Int) → Prop}
    (hQ : ∀ nl nc nw ru ns co, ab_CS n k d m nl nc nw ru ns ks ds ms li qu se co (ab_abn A) → Q nl nc nw ru ns co) : wp_X4_abandonJob nl nc nw ru ns co Q := by
  obtain ⟨h1, h2, h3, h4⟩ := hC
  unfold wp_X4_abandonJob wp_X1_stop
  refine hQ _ _ _ _ _ _ ⟨h1, ⟨⟨rfl, fun i x dx h => (by cases h)⟩, rfl, rfl, rfl, rfl, fun i x h => (by cases h), fun i x h => (by cases h)⟩, h3, fun i hi => ?_⟩
  show uI co 6 (co 6 + 1) i = uI (as_N A) 6 (as_N A 6 + 1) i
  unfold uI
  split
  · rw [h4 6 (by decide)]
  · exact h4 i hi
theorem sp_X4_queueOrAbandon (hC : ab_CS n k d m nl nc nw ru ns ks ds ms li qu se co A) (hI : ab_I b A) {a : Int} {Q : Int → Int → Int → Int → Int → (Nat → Int) → (Nat → Int) → Prop}
    (hQ : ∀ nl nc nw ru ns qu co, ab_CS n k d m nl nc nw ru ns ks ds ms li qu se co (ab_q A a) → Q nl nc nw ru ns qu co) : wp_X4_queueOrAbandon nl nc nw ru ns qu co a Q := by
  have i3 := hI.2.2.1
  have h4 := hC.2.1.2.2.2.1
  unfold wp_X4_queueOrAbandon
  unfold ab_q at hQ
  refine ⟨by omega, fun h => ?_, fun h => ?_⟩
  · rw [if_neg (by omega)] at hQ
    obtain ⟨h1, ⟨j1, j2, j3, j4, j5, j6, j7⟩, h3, h5⟩ := hC
    unfold wp_X1_enqueue
    refine ⟨by omega, fun q => absurd q (by omega), fun _ => ⟨by omega, hQ _ _ _ _ _ _ _ ⟨h1, ⟨j1, j2, j3, ?_, j5, j6, fun i x hx => ?_⟩, h3, h5⟩⟩⟩
    · show nw + 1 = ((as_Q A ++ [a]).length : Int)
      simp
      exact j4
    · have hx2 : (as_Q A ++ [a])[i]? = some x := hx
      unfold uI
      by_cases hi : i < (as_Q A).length
      · rw [List.getElem?_append_left hi] at hx2
        rw [if_neg (by omega)]
        exact j7 i x hx2
      · rw [List.getElem?_append_right (by omega)] at hx2
        have hlt2 := (List.getElem?_eq_some_iff.mp hx2).1
        simp at hlt2
        rw [show i - (as_Q A).length = 0 by omega] at hx2
        rw [if_pos (by omega)]
        simpa using hx2
  · rw [if_pos (by omega)] at hQ
    exact sp_X4_abandonJob hC (fun nl nc nw ru ns co g => hQ _ _ _ _ _ _ _ g)
theorem sp_X4_advanceJob (hC : ab_CS n k d m nl nc nw ru ns ks ds ms li qu se co A) (hI : ab_I b A) {Q : Int → Int → (Nat → Int) → (Nat → Int) → (Nat → Int) → Int → Int → Int → Int → Int → (Nat → Int) → (Nat → Int) → (Nat → Int) → (Nat → Int) → (Nat → Int) → Prop}
    (hQ : ∀ n k d m nl nc nw ru ns ks ds ms qu co, ab_CS n k d m nl nc nw ru ns ks ds ms li qu se co (ab_adv (as_E A 2).toNat 0 A).2 → Q (ab_adv (as_E A 2).toNat 0 A).1 n k d m nl nc nw ru ns ks ds ms qu co) : wp_X4_advanceJob n k d m nl nc nw ru ns ks ds ms li qu se co Q := by
  have hE := hI.2.2.2.2.2.1.2.2
  have hse : se 2 = as_E A 2 := hC.2.2.1 2 (by decide)
  have main : ∀ (j i : Nat) (w b : Int) (A : aS) (n : Int) (k d m : Nat → Int) (nl nc nw ru ns : Int) (ks ds ms qu co : Nat → Int), (i : Int) + (j : Int) = se 2 → ab_CS n k d m nl nc nw ru ns ks ds ms li qu se co A → ab_I b A →
      (∀ n k d m nl nc nw ru ns ks ds ms qu co, ab_CS n k d m nl nc nw ru ns ks ds ms li qu se co (ab_adv j w A).2 → Q (ab_adv j w A).1 n k d m nl nc nw ru ns ks ds ms qu co) →
      lq16 (wp_X4_advanceJob_14 li se (se 2) Q) (j + 1) n k d m nl nc nw ru ns ks ds ms qu co w (i : Int) := by
    intro j
    induction j with
    | zero =>
      intro i w b A n k d m nl nc nw ru ns ks ds ms qu co hij hC hI hQ
      show wp_X4_advanceJob_14 li se (se 2) Q (lq16 (wp_X4_advanceJob_14 li se (se 2) Q) 0) n k d m nl nc nw ru ns ks ds ms qu co w (i : Int)
      unfold wp_X4_advanceJob_14
      exact ⟨by omega, by omega, fun _ => hQ _ _ _ _ _ _ _ _ _ _ _ _ _ _ hC, fun h => absurd (by omega) h⟩
    | succ j ih =>
      intro i w b A n k d m nl nc nw ru ns ks ds ms qu co hij hC hI hQ
      show wp_X4_advanceJob_14 li se (se 2) Q (lq16 (wp_X4_advanceJob_14 li se (se 2) Q) (j + 1)) n k d m nl nc nw ru ns ks ds ms qu co w (i : Int)
      generalize lq16 (wp_X4_advanceJob_14 li se (se 2) Q) (j + 1) = K at ih ⊢
      have hru := ab_CS_ru hC
      have hr01 := hI.2.2.1.2.2.2
      unfold wp_X4_advanceJob_14
      unfold ab_adv at hQ
      refine ⟨by omega, by omega, fun h => absurd h (by omega), fun _ => ⟨by omega, fun h => ?_, fun h => ?_⟩⟩
      · rw [if_neg (by omega)] at hQ
        exact hQ _ _ _ _ _ _ _ _ _ _ _ _ _ _ hC
      · have hr1 : as_R A = 1 := by omega
        rw [if_pos hr1] at hQ
        have hs := ab_I_st hI hr1
        have htk := ab_I_tk hI hr1
        have nx : ∀ n k d m nl nc nw ru ns ks ds ms qu co, ab_CS n k d m nl nc nw ru ns ks ds ms li qu se co (ab_st A).2 → K n k d m nl nc nw ru ns ks ds ms qu co (w + (ab_st A).1) ((i : Int) + 1) := by
          intro n k d m nl nc nw ru ns ks ds ms qu co g
          have := ih (i + 1) (w + (ab_st A).1) (b + 1) (ab_st A).2 n k d m nl nc nw ru ns ks ds ms qu co (by omega) g hs.1 hQ
          push_cast at this
          exact this
        obtain ⟨h1, h2, h3, h4⟩ := hC
        refine sp_X1_takeStep h2 hI (fun nc nw ns ks ds ms qu g => ?_)
        have hC2 : ab_CS n k d m nl nc nw ru ns ks ds ms li qu se co (ab_tk A).2 := ⟨by rw [htk.2.2.2.2.2]; exact h1, g, by rw [htk.2.2.2.1]; exact h3, by rw [htk.2.2.2.2.1]; exact h4⟩
        refine sp_X1_isComplete g htk.1 (fun hc => ⟨by decide, fun q => absurd q (by decide), fun _ => ?_⟩) (fun hc => ⟨by decide, fun _ => ?_, fun q => absurd rfl q⟩)
        · have e : ab_st A = ((ab_tk A).1, ab_exc (ab_tk A).2) := by unfold ab_st; rw [if_pos hc]
          rw [e] at nx
          exact sp_X4_exchangeTrees hC2 htk.1 (fun n k d m nl nc nw ru ns co g2 => nx _ _ _ _ _ _ _ _ _ _ _ _ _ _ g2)
        · have e : ab_st A = ab_tk A := by unfold ab_st; rw [if_neg hc]
          rw [e] at nx
          exact nx _ _ _ _ _ _ _ _ _ _ _ _ _ _ hC2
  unfold wp_X4_advanceJob
  refine ⟨_, main (as_E A 2).toNat 0 0 b A n k d m nl nc nw ru ns ks ds ms qu co (by omega) hC hI hQ⟩
theorem sp_X4_needsRebuild (hC : ab_CS n k d m nl nc nw ru ns ks ds ms li qu se co A) (hI : ab_I b A) {Q : Int → Prop} (hQ1 : ab_need A → Q 1) (hQ0 : ¬ ab_need A → Q 0) : wp_X4_needsRebuild n d m se Q := by
  obtain ⟨h1, h2, h3, h4⟩ := hC
  have i6 := hI.2.2.2.2.2.1
  have hl := hI.1.2.2.1
  have hnp := ab_np_le (as_T A).1 (as_T A).2
  have hd := ab_dmax_le hI.1
  have e0 := h3 0 (by decide)
  have e1 := h3 1 (by decide)
  have hmul := ab_mulb (a := as_E A 0) (b := ((as_T A).1.length : Int)) (by omega) (by omega)
  unfold wp_X4_needsRebuild
  refine sp_X3_markedNodes h1 hI.1 ?_
  unfold ab_need at hQ1 hQ0
  rw [← h1.1] at hQ1 hQ0 hmul ⊢
  rw [e0, e1]
  have hn := h1.1
  refine ⟨by omega, by omega, fun h => hQ1 (Or.inl h), fun h => sp_X3_greatestDepth h1 hI.1 ⟨by omega, by omega, fun h5 => hQ0 (fun q => ?_), fun h5 => hQ1 (Or.inr (by omega))⟩⟩
  rcases q with q | q
  · exact h q
  · omega
theorem sp_X4_beginJob (hC : ab_CS n k d m nl nc nw ru ns ks ds ms li qu se co A) (hI : ab_I b A) {pr : Nat → Int} {Q : Int → Int → Int → Int → Int → (Nat → Int) → (Nat → Int) → (Nat → Int) → Prop}
    (hQ : ∀ nl nc nw ru ns li co pr, ab_CS n k d m nl nc nw ru ns ks ds ms li qu se co (ab_beg A) → Q nl nc nw ru ns li co pr) : wp_X4_beginJob n k m nl nc nw ru ns li co pr Q := by
  obtain ⟨h1, h2, h3, h4⟩ := hC
  unfold wp_X4_beginJob
  unfold ab_beg at hQ
  have key : ∀ (l9 : List Int) (li2 pr : Nat → Int), ab_ar li2 l9 → ab_CS n k d m (l9.length : Int) 0 0 1 0 ks ds ms li2 qu se (uI co 4 (co 4 + 1)) (as_T A, ab_e0, (l9, 0, [], 1), as_E A, uI (as_N A) 4 (as_N A 4 + 1)) := by
    intro l9 li2 pr hli
    refine ⟨h1, ⟨⟨rfl, fun i x dx h => (by cases h)⟩, rfl, rfl, rfl, rfl, hli, fun i x h => (by cases h)⟩, h3, fun i hi => ?_⟩
    show uI co 4 (co 4 + 1) i = uI (as_N A) 4 (as_N A 4 + 1) i
    unfold uI
    split
    · rw [h4 4 (by decide)]
    · exact h4 i hi
  refine sp_X3_tellPresence h1 hI.1 (fun a ha => sp_X3_presentKeys h1 hI.1 (sp_X1_start hI.1 ha (fun li2 hli => ?_)))
  exact hQ _ _ _ _ _ _ _ _ (key _ _ a hli)
theorem sp_X4_countAct (hC : ab_CS n k d m nl nc nw ru ns ks ds ms li qu se co A) (hI : ab_I b A) {w : Int} (hw : 0 ≤ w ∧ w ≤ 2000) {Q : (Nat → Int) → Prop}
    (hQ : ∀ co, ab_CS n k d m nl nc nw ru ns ks ds ms li qu se co (ab_cnta A w) → Q co) : wp_X4_countAct co w Q := by
  obtain ⟨h1, h2, h3, h4⟩ := hC
  have i7 := hI.2.2.2.2.2.2
  have e1 := h4 1 (by decide)
  unfold wp_X4_countAct
  refine ⟨by unfold uI; rw [if_neg (by decide)]; omega, by omega, hQ _ ⟨h1, h2, h3, fun i hi => ?_⟩⟩
  show _ = if i = 0 then w else if i = 1 then max (as_N A 1) w else if i = 2 then as_N A 2 + w else if i = 3 then as_N A 3 + 1 else as_N A i
  rw [← h4 1 (by decide), ← h4 2 (by decide), ← h4 3 (by decide), ← h4 i hi]
  rcases (show i = 0 ∨ i = 1 ∨ i = 2 ∨ i = 3 ∨ (i ≠ 0 ∧ i ≠ 1 ∧ i ≠ 2 ∧ i ≠ 3) by omega) with h | h | h | h | h
  · subst h; simp [uI]
  · subst h; simp [uI]
  · subst h; simp [uI]
  · subst h; simp [uI]
  · simp [uI, h.1, h.2.1, h.2.2.1, h.2.2.2]
theorem sp_X4_perform_55 (hC : ab_CS n k d m nl nc nw ru ns ks ds ms li qu se co A) (hI : ab_I b A) {pr : Nat → Int} {w r : Int} (hw : 0 ≤ w ∧ w ≤ 120) (hr : r = 0 ∨ r = 1)
    {Q : Int → Int → (Nat → Int) → (Nat → Int) → (Nat → Int) → Int → Int → Int → Int → Int → (Nat → Int) → (Nat → Int) → (Nat → Int) → (Nat → Int) → (Nat → Int) → (Nat → Int) → (Nat → Int) → Prop}
    (hQ : ∀ n k d m nl nc nw ru ns ks ds ms li qu co pr, ab_CS n k d m nl nc nw ru ns ks ds ms li qu se co (ab_fin (ab_adv (as_E A 2).toNat w A).2 (ab_adv (as_E A 2).toNat w A).1) → Q r n k d m nl nc nw ru ns ks ds ms li qu co pr) :
    wp_X4_perform_55 n k d m nl nc nw ru ns ks ds ms li qu se co pr w r Q := by
  have hE := hI.2.2.2.2.2.1.2.2
  obtain ⟨j1, j2, j3⟩ := ab_I_adv (as_E A 2).toNat 0 A b hI
  have hw2 := ab_adv_w (as_E A 2).toNat w A
  rw [hw2.1, hw2.2] at hQ
  unfold wp_X4_perform_55
  refine sp_X4_advanceJob hC hI (fun n k d m nl nc nw ru ns ks ds ms qu co g => ?_)
  generalize ab_adv (as_E A 2).toNat 0 A = R at *
  have hru := ab_CS_ru g
  have hr01 := j1.2.2.1.2.2.2
  unfold ab_fin at hQ
  refine ⟨by omega, fun h => ?_, fun h => sp_X4_needsRebuild g j1 (fun hn => ⟨by decide, fun q => absurd q (by decide), fun _ => ?_⟩) (fun hn => ⟨by decide, fun _ => ?_, fun q => absurd rfl q⟩)⟩
  · have e : ab_beg1 R.2 = R.2 := by unfold ab_beg1; rw [if_neg (fun q => h (by omega))]
    rw [e] at hQ
    exact sp_X4_countAct g j1 (by omega) (fun co g2 => ⟨hr, hQ _ _ _ _ _ _ _ _ _ _ _ _ _ _ _ _ g2⟩)
  · have e : ab_beg1 R.2 = ab_beg R.2 := by unfold ab_beg1; rw [if_pos ⟨by omega, hn⟩]
    rw [e] at hQ
    exact sp_X4_beginJob g j1 (fun nl nc nw ru ns li co pr g2 => sp_X4_countAct g2 (ab_I_beg j1) (by omega) (fun co g3 => ⟨hr, hQ _ _ _ _ _ _ _ _ _ _ _ _ _ _ _ _ g3⟩))
  · have e : ab_beg1 R.2 = R.2 := by unfold ab_beg1; rw [if_neg (fun q => hn q.2)]
    rw [e] at hQ
    exact sp_X4_countAct g j1 (by omega) (fun co g2 => ⟨hr, hQ _ _ _ _ _ _ _ _ _ _ _ _ _ _ _ _ g2⟩)
theorem sp_X4_perform (hC : ab_CS n k d m nl nc nw ru ns ks ds ms li qu se co A) (hI : ab_I b A) {pr : Nat → Int} {a : Int} (hok : ab_ok (as_T A) a)
    {Q : Int → Int → (Nat → Int) → (Nat → Int) → (Nat → Int) → Int → Int → Int → Int → Int → (Nat → Int) → (Nat → Int) → (Nat → Int) → (Nat → Int) → (Nat → Int) → (Nat → Int) → (Nat → Int) → Prop}
    (hQ : ∀ r n k d m nl nc nw ru ns ks ds ms li qu co pr, (r = 0 ∨ r = 1) → (a ≠ -1 → (r = 1 ↔ ab_chg (as_T A) a)) → ab_CS n k d m nl nc nw ru ns ks ds ms li qu se co (ab_act A a).2 → Q r n k d m nl nc nw ru ns ks ds ms li qu co pr) :
    wp_X4_perform n k d m nl nc nw ru ns ks ds ms li qu se co pr a Q := by
  have har : inR a := by
    rcases hok with h | h | h <;> omega
  unfold wp_X4_perform
  unfold ab_act at hQ
  refine ⟨har, fun h => ?_, fun h => ?_⟩
  · simp only [if_pos h] at hQ
    unfold wp_X4_perform_33
    exact ⟨by decide, fun _ => sp_X4_perform_55 hC hI (by decide) (Or.inl rfl) (fun n k d m nl nc nw ru ns ks ds ms li qu co pr g => hQ _ _ _ _ _ _ _ _ _ _ _ _ _ _ _ _ _ (Or.inl rfl) (fun q => absurd h q) g), fun q => absurd rfl q⟩
  · simp only [if_neg h] at hQ
    obtain ⟨ha, hI1⟩ := ab_ok_g hI hok h
    have hd := ab_dep_le hI.1 (a % 500)
    have h1 := hC.1
    refine sp_X3_visitsFor h1 hI.1 ha ?_
    show wp_X3_changeBy _ _ _ _ _ _
    refine sp_X3_changeBy h1 hI.1 ha ?_ (fun r k d m hr01 hrc g => ?_)
    · rcases hok with q | q | q
      · exact absurd q h
      · rw [show a % 500 = a by omega]
        exact q.2.2.imp id Or.inl
      · exact Or.inr (Or.inr q.1)
    · have hC1 : ab_CS ((ab_tact (as_T A) a).1.length : Int) k d m nl nc nw ru ns ks ds ms li qu se co (ab_p1 A a) := ⟨g, hC.2.1, hC.2.2.1, hC.2.2.2⟩
      have hru := ab_CS_ru hC
      have hr2 := hI.2.2.1.2.2.2
      have hdd : ((ab_s (a % 500) (as_T A).1).length : Int) = ab_dep (as_T A).1 (a % 500) := rfl
      rw [hdd]
      have hE2 := ab_p2_E A a
      unfold wp_X4_perform_33
      refine ⟨by omega, fun h0 => ?_, fun h0 => ⟨by omega, fun h1 => ?_, fun h1 => ?_⟩⟩
      · have e : ab_p2 A a = ab_p1 A a := by unfold ab_p2; rw [if_neg (fun q => by have := hrc.mpr q.2; omega)]
        rw [e] at hQ
        exact sp_X4_perform_55 hC1 hI1 (by omega) hr01 (fun n k d m nl nc nw ru ns ks ds ms li qu co pr g => hQ _ _ _ _ _ _ _ _ _ _ _ _ _ _ _ _ _ hr01 (fun _ => hrc) g)
      · have e : ab_p2 A a = ab_p1 A a := by unfold ab_p2; rw [if_neg (fun q => by have := q.1; omega)]
        rw [e] at hQ
        exact sp_X4_perform_55 hC1 hI1 (by omega) hr01 (fun n k d m nl nc nw ru ns ks ds ms li qu co pr g => hQ _ _ _ _ _ _ _ _ _ _ _ _ _ _ _ _ _ hr01 (fun _ => hrc) g)
      · have e : ab_p2 A a = ab_q (ab_p1 A a) a := by unfold ab_p2; rw [if_pos ⟨by omega, hrc.mp (by omega)⟩]
        have hI2 := ab_I_p2 hI hok h
        rw [e] at hQ hI2 hE2
        refine sp_X4_queueOrAbandon hC1 hI1 (a := a) (fun nl nc nw ru ns qu co g2 => ?_)
        refine sp_X4_perform_55 g2 hI2 (by omega) hr01 (fun n k d m nl nc nw ru ns ks ds ms li qu co pr g3 => hQ _ _ _ _ _ _ _ _ _ _ _ _ _ _ _ _ _ hr01 (fun _ => hrc) ?_)
        rw [hE2] at g3
        exact g3
end PJ
