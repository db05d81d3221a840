/-! the reference's acts over the state -/
theorem uI_eq (f : Nat → Int) (k : Nat) (v : Int) : uI f k v k = v := by unfold uI; rw [if_pos rfl]
theorem uI_ne {f : Nat → Int} {k j : Nat} {v : Int} (h : j ≠ k) : uI f k v j = f j := by unfold uI; rw [if_neg h]
theorem ab_mT_congr {z z2 : Nat → Int} {t : Nat} {L : List Int} {mk : Int → Int} (h : ab_mT z t L mk) (hg : ab_g L mk) (hz : ∀ j, t ≤ j → j < t + 241 → z2 j = z j) : ab_mT z2 t L mk := by
  have hl := hg.2.2.1
  refine ⟨by rw [hz t (Nat.le_refl _) (by omega)]; exact h.1, fun i x hx => ?_⟩
  have hlt := (List.getElem?_eq_some_iff.mp hx).1
  rw [hz _ (by omega) (by omega), hz _ (by omega) (by omega)]
  exact h.2 i x hx
section PK
variable {z : Nat → Int} {A : aS} {b : Int}
theorem ab_MS_U (h : ab_MS z A) (hI : ab_I b A) {z2 : Nat → Int} {U : aT} (hU : ab_mT z2 241 U.1 U.2) (hf : ∀ j, ¬ (241 ≤ j ∧ j < 241 + 241) → z2 j = z j) : ab_MS z2 (as_T A, U, A.2.2) := by
  obtain ⟨h1, h2, ⟨h3, h4, h5, h6⟩, ⟨h7, h8⟩, h9, h10⟩ := h
  refine ⟨ab_mT_congr h1 hI.1 (fun j a b => hf j (by omega)), hU, ⟨?_, ?_, ?_, ?_⟩, ⟨fun p x hx => ?_, fun p x hx => ?_⟩, fun i hi => ?_, fun i hi => ?_⟩
  · rw [hf _ (by omega)]; exact h3
  · rw [hf _ (by omega)]; exact h4
  · rw [hf _ (by omega)]; exact h5
  · rw [hf _ (by omega)]; exact h6
  · rw [hf _ (by omega)]; exact h7 p x hx
  · rw [hf _ (by omega)]; exact h8 p x hx
  · rw [hf _ (by omega)]; exact h9 i hi
  · rw [hf _ (by omega)]; exact h10 i hi
theorem ab_MS_T (h : ab_MS z A) (hI : ab_I b A) {z2 : Nat → Int} {T : aT} (hT : ab_mT z2 0 T.1 T.2) (hf : ∀ j, ¬ (0 ≤ j ∧ j < 0 + 241) → z2 j = z j) : ab_MS z2 (T, A.2) := by
  obtain ⟨h1, h2, ⟨h3, h4, h5, h6⟩, ⟨h7, h8⟩, h9, h10⟩ := h
  refine ⟨hT, ab_mT_congr h2 hI.2.1 (fun j a b => hf j (by omega)), ⟨?_, ?_, ?_, ?_⟩, ⟨fun p x hx => ?_, fun p x hx => ?_⟩, fun i hi => ?_, fun i hi => ?_⟩
  · rw [hf _ (by omega)]; exact h3
  · rw [hf _ (by omega)]; exact h4
  · rw [hf _ (by omega)]; exact h5
  · rw [hf _ (by omega)]; exact h6
  · rw [hf _ (by omega)]; exact h7 p x hx
  · rw [hf _ (by omega)]; exact h8 p x hx
  · rw [hf _ (by omega)]; exact h9 i hi
  · rw [hf _ (by omega)]; exact h10 i hi
theorem ab_mT_e0 {z : Nat → Int} {t : Nat} (h : z t = 0) : ab_mT z t ([] : List Int) (fun _ => 0) := ⟨h, fun i x hx => by cases hx⟩
/-- the second tree, the list, the queue are emptied -/
theorem ab_MS_end (h : ab_MS z A) (hI : ab_I b A) {z2 : Nat → Int} (h0 : z2 482 = 0 ∧ z2 483 = 0 ∧ z2 484 = 0 ∧ z2 485 = 0 ∧ z2 241 = 0) {T : aT} (hT : ab_mT z2 0 T.1 T.2) {N : Nat → Int} (hE : ∀ i, i < 3 → z2 (636 + i) = as_E A i) (hN : ∀ i, i < 7 → z2 (639 + i) = N i) :
    ab_MS z2 (T, ab_e0, ([], 0, [], 0), as_E A, N) := ⟨hT, ab_mT_e0 h0.2.2.2.2, ⟨h0.2.1, h0.2.2.1, h0.2.2.2.1, h0.1⟩, ⟨fun p x hx => (by cases hx), fun p x hx => (by cases hx)⟩, hE, hN⟩
theorem sp_X5_put2 (h : ab_MS z A) (hI : ab_I b A) {key : Int} (hk : key ∈ (as_T A).1) {Q : (Nat → Int) → Prop} (hQ : ∀ z2, ab_MS z2 (as_T A, ab_tput (as_U A) key, A.2.2) → Q z2) : wp_X5_put z 241 key Q := by
  have hkr := hI.1.2.1 key hk
  exact sp_X5_put (t := 241) h.2.1 hI.2.1 (Nat.le_refl _) (by omega) (ab_room hI hk) (fun z2 g1 g2 => hQ z2 (ab_MS_U h hI (U := ab_tput (as_U A) key) g1 g2))
theorem sp_X5_replay (h : ab_MS z A) (hI : ab_I b A) {a : Int} {q : List Int} (hq : as_Q A = a :: q) {Q : (Nat → Int) → Prop}
    (hQ : ∀ z2, ab_MS z2 (as_T A, ab_tact (as_U A) a, (as_L A, as_C A, q, as_R A), as_E A, as_N A) → Q z2) : wp_X5_replay z Q := by
  have hS := h
  obtain ⟨h1, h2, ⟨h3, h4, h5, h6⟩, ⟨h7, h8⟩, h9, h10⟩ := h
  have i3 := hI.2.2.1
  have ha := hI.2.2.2.2.1.2.2 a (by rw [hq]; exact List.mem_cons_self)
  have ea : z 606 = a := h8 0 a (by rw [hq]; rfl)
  rw [hq, List.length_cons] at h5 i3
  have main : ∀ (m i : Nat) (z2 : Nat → Int), i + m = q.length → z2 485 = (q.length : Int) → (∀ j, ¬ (606 ≤ j ∧ j < 636) → j ≠ 485 → z2 j = z j) → (∀ p, p < i → z2 (606 + p) = z (606 + p + 1)) → (∀ p, i ≤ p → p < 30 → z2 (606 + p) = z (606 + p)) → lq2 (wp_X5_replay_23 (z 606) Q) (m + 1) z2 (i : Int) := by
    intro m
    induction m with
    | zero =>
      intro i z2 hi g1 g2 g3 g4
      show wp_X5_replay_23 (z 606) Q (lq2 (wp_X5_replay_23 (z 606) Q) 0) z2 (i : Int)
      have hB : ab_MS z2 (as_T A, as_U A, (as_L A, as_C A, q, as_R A), as_E A, as_N A) := by
        refine ⟨ab_mT_congr h1 hI.1 (fun j a b => g2 j (by omega) (by omega)), ab_mT_congr h2 hI.2.1 (fun j a b => g2 j (by omega) (by omega)), ⟨?_, ?_, g1, ?_⟩, ⟨fun p x hx => ?_, fun p x hx => ?_⟩, fun i hi => ?_, fun i hi => ?_⟩
        · rw [g2 _ (by omega) (by omega)]; exact h3
        · rw [g2 _ (by omega) (by omega)]; exact h4
        · rw [g2 _ (by omega) (by omega)]; exact h6
        · have hlt : p < (as_L A).length := (List.getElem?_eq_some_iff.mp hx).1
          rw [g2 _ (by omega) (by omega)]
          exact h7 p x hx
        · have hlt : p < q.length := (List.getElem?_eq_some_iff.mp hx).1
          rw [g3 p (by omega)]
          have := h8 (p + 1) x (by rw [hq, List.getElem?_cons_succ]; exact hx)
          exact this
        · rw [g2 _ (by omega) (by omega)]; exact h9 i hi
        · rw [g2 _ (by omega) (by omega)]; exact h10 i hi
      have hIB : ab_I b (as_T A, as_U A, (as_L A, as_C A, q, as_R A), as_E A, as_N A) := by
        obtain ⟨k1, k2, k3, k4, k5, k6, k7⟩ := hI
        refine ⟨k1, k2, ⟨k3.1, k3.2.1, by show q.length ≤ 30; omega, k3.2.2.2⟩, fun r => ?_, ⟨k5.1, k5.2.1, fun x hx => k5.2.2 x (by rw [hq]; exact List.mem_cons_of_mem _ hx)⟩, k6, k7⟩
        have := (k4 r).2.2.2
        rw [hq] at this
        cases this
      unfold wp_X5_replay_23
      rw [ea]
      refine ⟨by omega, by omega, fun _ => ⟨by omega, fun h => ?_, fun h => ?_⟩, fun h => absurd (by omega) h⟩
      · have et : ab_tact (as_U A) a = ab_tmark (as_U A) (a - 500) := by unfold ab_tact; rw [if_neg (by omega)]
        rw [et] at hQ
        exact sp_X5_mark (t := 241) hB.2.1 hIB.2.1 (Nat.le_refl _) (by omega) (fun z3 f1 f2 => hQ z3 (ab_MS_U hB hIB (U := ab_tmark (as_U A) (a - 500)) f1 f2))
      · have et : ab_tact (as_U A) a = ab_tput (as_U A) a := by unfold ab_tact; rw [if_pos (by omega)]
        rw [et] at hQ
        refine sp_X5_put2 hB hIB ?_ (fun z3 f1 => hQ z3 f1)
        have := ha.2
        rw [show a % 500 = a by omega] at this
        exact this
    | succ m ih =>
      intro i z2 hi g1 g2 g3 g4
      show wp_X5_replay_23 (z 606) Q (lq2 (wp_X5_replay_23 (z 606) Q) (m + 1)) z2 (i : Int)
      generalize lq2 (wp_X5_replay_23 (z 606) Q) (m + 1) = K at ih ⊢
      have e1 : ((606 : Int) + (i : Int)).toNat = 606 + i := by omega
      have e2 : ((606 : Int) + (i : Int) + 1).toNat = 606 + (i + 1) := by omega
      unfold wp_X5_replay_23
      simp only [e1, e2]
      refine ⟨by omega, by omega, fun h => absurd h (by omega), fun _ => ⟨by omega, by omega, ?_⟩⟩
      have := ih (i + 1) (uI z2 (606 + i) (z2 (606 + (i + 1)))) (by omega) (by rw [uI_ne (by omega)]; exact g1) (fun j hj hj2 => by rw [uI_ne (by omega)]; exact g2 j hj hj2) (fun p hp => by
        by_cases hpi : p = i
        · subst hpi
          rw [uI_eq, g4 (p + 1) (by omega) (by omega)]
          rfl
        · rw [uI_ne (by omega)]
          exact g3 p (by omega)) (fun p hp hp2 => by rw [uI_ne (by omega)]; exact g4 p (by omega) hp2)
      push_cast at this
      exact this
  unfold wp_X5_replay
  exact ⟨_, main q.length 0 (uI z 485 (z 485 - 1)) (by omega) (by rw [uI_eq]; omega) (fun j hj hj2 => uI_ne hj2) (fun p hp => absurd hp (Nat.not_lt_zero _)) (fun p hp hp2 => uI_ne (by omega))⟩
theorem sp_X5_makeStep_97 (h : ab_MS z A) (hI : ab_I b A) {nvi low high w : Int} {vi : Nat → Int} {Q : Int → Int → Int → Int → (Nat → Int) → (Nat → Int) → Prop}
    (hQ1 : as_C A = (as_L A).length ∧ as_Q A = [] → ∀ z2, ab_MS z2 (ab_exc A) → Q w nvi low high z2 vi) (hQ2 : ¬ (as_C A = (as_L A).length ∧ as_Q A = []) → Q w nvi low high z vi) : wp_X5_makeStep_97 nvi low high z vi w Q := by
  have hS := h
  obtain ⟨h1, h2, ⟨h3, h4, h5, h6⟩, ⟨h7, h8⟩, h9, h10⟩ := h
  have i3 := hI.2.2.1
  unfold wp_X5_makeStep_97
  refine ⟨by omega, by omega, fun h => hQ2 (fun q => by omega), fun h => ⟨by omega, fun h8 => hQ2 (fun q => ?_), fun h8 => ?_⟩⟩
  · rw [q.2] at h5
    simp at h5
    omega
  · have hc : as_C A = (as_L A).length ∧ as_Q A = [] := ⟨by omega, List.length_eq_zero_iff.mp (by omega)⟩
    have main : ∀ (m i : Nat) (z2 : Nat → Int), i + m = 241 → (∀ j, j < i → z2 j = z (241 + j)) → (∀ j, i ≤ j → z2 j = z j) → lq2 (wp_X5_makeStep_129 nvi low high vi w Q) (m + 1) z2 (i : Int) := by
      intro m
      induction m with
      | zero =>
        intro i z2 hi g1 g2
        have hi2 : i = 241 := by omega
        subst hi2
        show wp_X5_makeStep_129 nvi low high vi w Q (lq2 (wp_X5_makeStep_129 nvi low high vi w Q) 0) z2 ((241 : Nat) : Int)
        unfold wp_X5_makeStep_129 wp_X5_endNow
        refine ⟨by omega, fun _ => hQ1 hc _ ?_, fun h => absurd (by omega) h⟩
        have hfr : ∀ j, j < 241 → uI (uI (uI (uI (uI (uI z2 482 0) 483 0) 484 0) 485 0) 241 0) 644 (uI (uI (uI (uI (uI z2 482 0) 483 0) 484 0) 485 0) 241 0 644 + 1) j = z (241 + j) := fun j hj => by
          rw [uI_ne (by omega), uI_ne (by omega), uI_ne (by omega), uI_ne (by omega), uI_ne (by omega), uI_ne (by omega)]
          exact g1 j hj
        refine ab_MS_end (T := as_U A) hS hI ⟨by simp [uI], by simp [uI], by simp [uI], by simp [uI], by simp [uI]⟩ ?_ (fun i hi => ?_) (fun i hi => ?_)
        · have hl := hI.2.1.2.2.1
          refine ⟨by rw [hfr 0 (by omega)]; exact h2.1, fun i x hx => ?_⟩
          have hlt := (List.getElem?_eq_some_iff.mp hx).1
          rw [hfr _ (by omega), hfr _ (by omega)]
          have := h2.2 i x hx
          rw [show 241 + (0 + 1 + i) = 241 + 1 + i by omega, show 241 + (0 + 121 + i) = 241 + 121 + i by omega]
          exact this
        · rw [uI_ne (by omega), uI_ne (by omega), uI_ne (by omega), uI_ne (by omega), uI_ne (by omega), uI_ne (by omega), g2 _ (by omega)]
          exact h9 i hi
        · have e644 : z2 644 = as_N A 5 := by rw [g2 _ (by omega)]; exact h10 5 (by decide)
          by_cases h5 : i = 5
          · subst h5
            rw [show (639 + 5 : Nat) = 644 from rfl, uI_eq, uI_eq, uI_ne (by omega), uI_ne (by omega), uI_ne (by omega), uI_ne (by omega), uI_ne (by omega), e644]
          · rw [uI_ne (by omega), uI_ne (by omega), uI_ne (by omega), uI_ne (by omega), uI_ne (by omega), uI_ne (by omega), g2 _ (by omega), uI_ne h5]
            exact h10 i hi
      | succ m ih =>
        intro i z2 hi g1 g2
        show wp_X5_makeStep_129 nvi low high vi w Q (lq2 (wp_X5_makeStep_129 nvi low high vi w Q) (m + 1)) z2 (i : Int)
        generalize lq2 (wp_X5_makeStep_129 nvi low high vi w Q) (m + 1) = K at ih ⊢
        have e1 : ((241 : Int) + (i : Int)).toNat = 241 + i := by omega
        have e2 : ((0 : Int) + (i : Int)).toNat = i := by omega
        unfold wp_X5_makeStep_129
        simp only [e1, e2]
        refine ⟨by omega, fun h => absurd h (by omega), fun _ => ⟨by omega, by omega, ?_⟩⟩
        have := ih (i + 1) (uI z2 i (z2 (241 + i))) (by omega) (fun j hj => by
          by_cases hji : j = i
          · subst hji
            rw [uI_eq]
            exact g2 _ (by omega)
          · rw [uI_ne hji]
            exact g1 j (by omega)) (fun j hj => by rw [uI_ne (by omega)]; exact g2 j (by omega))
        push_cast at this
        exact this
    exact ⟨_, main 241 0 z rfl (fun j hj => absurd hj (Nat.not_lt_zero _)) (fun j _ => rfl)⟩
theorem sp_X5_makeStep (h : ab_MS z A) (hI : ab_I b A) (hr : as_R A = 1) {nvi low high : Int} {vi : Nat → Int} {Q : Int → Int → Int → Int → (Nat → Int) → (Nat → Int) → Prop}
    (hQ : ∀ nvi low high z2 vi, ab_MS z2 (ab_st A).2 → Q (ab_st A).1 nvi low high z2 vi) : wp_X5_makeStep nvi low high z vi Q := by
  have i3 := hI.2.2.1
  have i5 := hI.2.2.2.2.1
  have htk := ab_I_tk hI hr
  have step : ∀ (z2 : Nat → Int) (nvi low high : Int) (vi : Nat → Int), ab_MS z2 (ab_tk A).2 → wp_X5_makeStep_97 nvi low high z2 vi (ab_tk A).1 Q := by
    intro z2 nvi low high vi g
    refine sp_X5_makeStep_97 g htk.1 (fun hc z3 g3 => ?_) (fun hc => ?_)
    · have e : ab_st A = ((ab_tk A).1, ab_exc (ab_tk A).2) := by unfold ab_st; rw [if_pos hc]
      rw [e] at hQ
      exact hQ _ _ _ _ _ g3
    · have e : ab_st A = ab_tk A := by unfold ab_st; rw [if_neg hc]
      rw [e] at hQ
      exact hQ _ _ _ _ _ g
  have hS := h
  obtain ⟨h1, h2, ⟨h3, h4, h5, h6⟩, ⟨h7, h8⟩, h9, h10⟩ := h
  unfold wp_X5_makeStep
  unfold ab_tk at step
  by_cases hc : as_C A < (as_L A).length
  · simp only [if_pos hc] at step
    have hg := ab_getD hc
    have hm := i5.2.1 _ (List.mem_of_getElem? hg)
    have e1 : ((486 : Int) + z 484).toNat = 486 + as_C A := by omega
    have ez : z (486 + as_C A) = (as_L A).getD (as_C A) 0 := h7 _ _ hg
    rw [e1, ez]
    generalize (as_L A).getD (as_C A) 0 = key at *
    refine ⟨by omega, by omega, fun h => absurd h (by omega), fun _ => ⟨by omega, sp_X5_put2 hS hI hm (fun z3 g3 => step _ _ _ _ _ ?_)⟩⟩
    obtain ⟨k1, k2, ⟨k3, k4, k5, k6⟩, ⟨k7, k8⟩, k9, k10⟩ := g3
    have hgp : ab_g (ab_tput (as_U A) key).1 (ab_tput (as_U A) key).2 := ab_g_put hI.2.1 (by have := hI.1.2.1 key hm; omega) (ab_room hI hm)
    refine ⟨ab_mT_congr k1 hI.1 (fun j a b => uI_ne (by omega)), ab_mT_congr k2 hgp (fun j a b => uI_ne (by omega)), ⟨by rw [uI_ne (by omega)]; exact k3, ?_, by rw [uI_ne (by omega)]; exact k5, by rw [uI_ne (by omega)]; exact k6⟩, ⟨fun p x hx => ?_, fun p x hx => ?_⟩, fun i hi => by rw [uI_ne (by omega)]; exact k9 i hi, fun i hi => by rw [uI_ne (by omega)]; exact k10 i hi⟩
    · rw [uI_eq, k4]
      show ((as_C A : Int) + 1) = ((as_C A + 1 : Nat) : Int)
      omega
    · rw [uI_ne (by omega)]; exact k7 p x hx
    · rw [uI_ne (by omega)]; exact k8 p x hx
  · simp only [if_neg hc] at step
    refine ⟨by omega, by omega, fun _ => ⟨by omega, fun h => ?_, fun h => ?_⟩, fun h => absurd (by omega) h⟩
    · have hq : as_Q A = [] := List.length_eq_zero_iff.mp (by omega)
      rw [hq] at step
      exact step z _ _ _ _ hS
    · cases hq : as_Q A with
      | nil => rw [hq] at h5; simp at h5; omega
      | cons a q =>
        rw [hq] at step
        simp only at step
        have ha := i5.2.2 a (by rw [hq]; exact List.mem_cons_self)
        have ea : z 606 = a := h8 0 a (by rw [hq]; rfl)
        rw [ea]
        refine ⟨by omega, sp_X5_depthOf (t := 241) h2 hI.2.1 (Nat.le_refl _) (by omega) (fun nvi low high vi => ?_)⟩
        exact sp_X5_replay hS hI hq (fun z2 g => step z2 _ _ _ _ g)
theorem sp_X5_queue (h : ab_MS z A) (hI : ab_I b A) {how key a : Int} (ha : (how = 0 ∧ a = key) ∨ (how = 1 ∧ a = 500 + key)) {Q : (Nat → Int) → Prop} (hQ : ∀ z2, ab_MS z2 (ab_q A a) → Q z2) : wp_X5_queue z how key Q := by
  have hS := h
  obtain ⟨h1, h2, ⟨h3, h4, h5, h6⟩, ⟨h7, h8⟩, h9, h10⟩ := h
  have i3 := hI.2.2.1
  unfold wp_X5_queue
  unfold ab_q at hQ
  refine ⟨by omega, fun h => ?_, fun h => ?_⟩
  · rw [if_neg (by omega)] at hQ
    have e1 : ((606 : Int) + z 485).toNat = 606 + (as_Q A).length := by omega
    have fin : wp_X5_queue_59 z a (606 + z 485) Q := by
      unfold wp_X5_queue_59
      rw [e1]
      refine ⟨by omega, hQ _ ⟨ab_mT_congr h1 hI.1 (fun j a b => by rw [uI_ne (by omega), uI_ne (by omega)]), ab_mT_congr h2 hI.2.1 (fun j a b => by rw [uI_ne (by omega), uI_ne (by omega)]), ⟨?_, ?_, ?_, ?_⟩, ⟨fun p x hx => ?_, fun p x hx => ?_⟩, fun i hi => ?_, fun i hi => ?_⟩⟩
      · rw [uI_ne (by omega), uI_ne (by omega)]; exact h3
      · rw [uI_ne (by omega), uI_ne (by omega)]; exact h4
      · rw [uI_eq, uI_ne (by omega), h5]
        show ((as_Q A).length : Int) + 1 = ((as_Q A ++ [a]).length : Int)
        simp
      · rw [uI_ne (by omega), uI_ne (by omega)]; exact h6
      · have hlt : p < (as_L A).length := (List.getElem?_eq_some_iff.mp hx).1
        rw [uI_ne (by omega), uI_ne (by omega)]; exact h7 p x hx
      · have hx2 : (as_Q A ++ [a])[p]? = some x := hx
        rw [uI_ne (by omega)]
        by_cases hp : p < (as_Q A).length
        · rw [List.getElem?_append_left hp] at hx2
          rw [uI_ne (by omega)]
          exact h8 p x hx2
        · rw [List.getElem?_append_right (by omega)] at hx2
          have hlt2 := (List.getElem?_eq_some_iff.mp hx2).1
          simp at hlt2
          have hp2 : p = (as_Q A).length := by omega
          subst hp2
          rw [uI_eq]
          simpa using hx2
      · rw [uI_ne (by omega), uI_ne (by omega)]; exact h9 i hi
      · rw [uI_ne (by omega), uI_ne (by omega)]; exact h10 i hi
    refine ⟨by omega, fun h2 => ?_, fun h2 => ?_⟩
    · have := ha.resolve_left (fun q => h2 q.1)
      rw [← this.2]
      exact fin
    · have := ha.resolve_right (fun q => by omega)
      rw [← this.2]
      exact fin
  · rw [if_pos (by omega)] at hQ
    unfold wp_X5_endNow
    refine hQ _ (ab_MS_end (T := as_T A) hS hI ⟨by simp [uI], by simp [uI], by simp [uI], by simp [uI], by simp [uI]⟩ (ab_mT_congr h1 hI.1 (fun j a b => by rw [uI_ne (by omega), uI_ne (by omega), uI_ne (by omega), uI_ne (by omega), uI_ne (by omega), uI_ne (by omega)])) (fun i hi => ?_) (fun i hi => ?_))
    · rw [uI_ne (by omega), uI_ne (by omega), uI_ne (by omega), uI_ne (by omega), uI_ne (by omega), uI_ne (by omega)]
      exact h9 i hi
    · by_cases h6 : i = 6
      · subst h6
        rw [show (639 + 6 : Nat) = 645 from rfl, uI_eq, uI_eq, uI_ne (by omega), uI_ne (by omega), uI_ne (by omega), uI_ne (by omega), uI_ne (by omega)]
        have := h10 6 (by decide)
        rw [← this]
      · rw [uI_ne (by omega), uI_ne (by omega), uI_ne (by omega), uI_ne (by omega), uI_ne (by omega), uI_ne (by omega), uI_ne h6]
        exact h10 i hi
theorem sp_X5_beginNow (h : ab_MS z A) (hI : ab_I b A) {sr fr to : Nat → Int} {Q : (Nat → Int) → (Nat → Int) → (Nat → Int) → (Nat → Int) → Prop}
    (hQ : ∀ z2 sr fr to, ab_MS z2 (ab_beg A) → Q z2 sr fr to) : wp_X5_beginNow z sr fr to Q := by
  obtain ⟨h1, h2, ⟨h3, h4, h5, h6⟩, ⟨h7, h8⟩, h9, h10⟩ := h
  have hle := ab_lst_le hI.1
  unfold wp_X5_beginNow
  refine sp_X5_makeList h1 hI.1 (fun z2 sr fr to g1 g2 g3 => hQ _ _ _ _ ?_)
  unfold ab_beg
  generalize ab_lst (as_T A).1 (as_T A).2 = l9 at *
  refine ⟨ab_mT_congr h1 hI.1 (fun j a b => by rw [uI_ne (by omega), uI_ne (by omega), uI_ne (by omega), uI_ne (by omega), uI_ne (by omega)]; exact g3 j (by omega) (by omega)), ab_mT_e0 (by rw [uI_ne (by omega), uI_eq]), ⟨?_, ?_, ?_, ?_⟩, ⟨fun p x hx => ?_, fun p x hx => (by cases hx)⟩, fun i hi => ?_, fun i hi => ?_⟩
  · rw [uI_ne (by omega), uI_ne (by omega), uI_ne (by omega), uI_ne (by omega), uI_ne (by omega)]; exact g1
  · rw [uI_ne (by omega), uI_ne (by omega), uI_ne (by omega), uI_eq]; rfl
  · rw [uI_ne (by omega), uI_ne (by omega), uI_eq]; rfl
  · rw [uI_ne (by omega), uI_ne (by omega), uI_ne (by omega), uI_ne (by omega), uI_eq]
  · have hlt : p < l9.length := (List.getElem?_eq_some_iff.mp hx).1
    rw [uI_ne (by omega), uI_ne (by omega), uI_ne (by omega), uI_ne (by omega), uI_ne (by omega)]; exact g2 p x hx
  · rw [uI_ne (by omega), uI_ne (by omega), uI_ne (by omega), uI_ne (by omega), uI_ne (by omega), g3 _ (by omega) (by omega)]
    exact h9 i hi
  · by_cases h4 : i = 4
    · subst h4
      rw [show (639 + 4 : Nat) = 643 from rfl, uI_eq, uI_ne (by omega), uI_ne (by omega), uI_ne (by omega), uI_ne (by omega), g3 _ (by omega) (by omega)]
      show z 643 + 1 = uI (as_N A) 4 (as_N A 4 + 1) 4
      rw [uI_eq]
      have := h10 4 (by decide)
      rw [← this]
    · rw [uI_ne (by omega), uI_ne (by omega), uI_ne (by omega), uI_ne (by omega), uI_ne (by omega), g3 _ (by omega) (by omega)]
      show z (639 + i) = uI (as_N A) 4 (as_N A 4 + 1) i
      rw [uI_ne h4]
      exact h10 i hi
theorem ab_MS_cnta (h : ab_MS z A) (hI : ab_I b A) {w : Int} {z2 : Nat → Int} (hf : ∀ j, j < 639 → z2 j = z j) (h0 : z2 639 = w) (h1 : z2 640 = max (z 640) w) (h2 : z2 641 = z 641 + w) (h3 : z2 642 = z 642 + 1) (h4 : ∀ i, 643 ≤ i → z2 i = z i) : ab_MS z2 (ab_cnta A w) := by
  obtain ⟨k1, k2, ⟨k3, k4, k5, k6⟩, ⟨k7, k8⟩, k9, k10⟩ := h
  have i3 := hI.2.2.1
  refine ⟨ab_mT_congr k1 hI.1 (fun j a b => hf j (by omega)), ab_mT_congr k2 hI.2.1 (fun j a b => hf j (by omega)), ⟨?_, ?_, ?_, ?_⟩, ⟨fun p x hx => ?_, fun p x hx => ?_⟩, fun i hi => ?_, fun i hi => ?_⟩
  · rw [hf _ (by omega)]; exact k3
  · rw [hf _ (by omega)]; exact k4
  · rw [hf _ (by omega)]; exact k5
  · rw [hf _ (by omega)]; exact k6
  · have hlt : p < (as_L A).length := (List.getElem?_eq_some_iff.mp hx).1
    rw [hf _ (by omega)]; exact k7 p x hx
  · have hlt : p < (as_Q A).length := (List.getElem?_eq_some_iff.mp hx).1
    rw [hf _ (by omega)]; exact k8 p x hx
  · rw [hf _ (by omega)]; exact k9 i hi
  · show z2 (639 + i) = if i = 0 then w else if i = 1 then max (as_N A 1) w else if i = 2 then as_N A 2 + w else if i = 3 then as_N A 3 + 1 else as_N A i
    have n1 := k10 1 (by decide)
    have n2 := k10 2 (by decide)
    have n3 := k10 3 (by decide)
    rcases (show i = 0 ∨ i = 1 ∨ i = 2 ∨ i = 3 ∨ (i ≠ 0 ∧ i ≠ 1 ∧ i ≠ 2 ∧ i ≠ 3) by omega) with q | q | q | q | q
    · subst q; exact h0
    · subst q
      rw [if_neg (by decide), if_pos rfl, ← n1]
      exact h1
    · subst q
      rw [if_neg (by decide), if_neg (by decide), if_pos rfl, ← n2]
      exact h2
    · subst q
      rw [if_neg (by decide), if_neg (by decide), if_neg (by decide), if_pos rfl, ← n3]
      exact h3
    · rw [if_neg q.1, if_neg q.2.1, if_neg q.2.2.1, if_neg q.2.2.2, h4 _ (by omega)]
      exact k10 i hi
theorem sp_X5_act_168 (h : ab_MS z A) (hI : ab_I b A) {w : Int} (hw : 0 ≤ w ∧ w ≤ 2000) {nvi low high : Int} {vi sr fr to : Nat → Int} {Q : Int → Int → Int → Int → (Nat → Int) → (Nat → Int) → (Nat → Int) → (Nat → Int) → (Nat → Int) → Prop}
    (hQ : ∀ z2, ab_MS z2 (ab_cnta A w) → Q w nvi low high z2 vi sr fr to) : wp_X5_act_168 nvi low high z vi sr fr to w Q := by
  have i7 := hI.2.2.2.2.2.2
  have n1 : z 640 = as_N A 1 := h.2.2.2.2.2 1 (by decide)
  unfold wp_X5_act_168 wp_X5_act_208
  have e640 : uI z 639 w 640 = z 640 := uI_ne (by omega)
  rw [e640]
  have et : (640 : Int).toNat = 640 := rfl
  rw [et]
  have fin : ∀ v, v = max (z 640) w → ab_MS (uI (uI (uI (uI z 639 w) 640 v) 641 ((uI (uI z 639 w) 640 v) 641 + w)) 642 ((uI (uI (uI z 639 w) 640 v) 641 ((uI (uI z 639 w) 640 v) 641 + w)) 642 + 1)) (ab_cnta A w) := by
    intro v hv
    refine ab_MS_cnta h hI (fun j hj => ?_) ?_ ?_ ?_ ?_ (fun i hi => ?_)
    · rw [uI_ne (by omega), uI_ne (by omega), uI_ne (by omega), uI_ne (by omega)]
    · rw [uI_ne (by omega), uI_ne (by omega), uI_ne (by omega), uI_eq]
    · rw [uI_ne (by omega), uI_ne (by omega), uI_eq, hv]
    · rw [uI_ne (by omega), uI_eq, uI_ne (by omega), uI_ne (by omega)]
    · rw [uI_eq, uI_ne (by omega), uI_ne (by omega), uI_ne (by omega)]
    · rw [uI_ne (by omega), uI_ne (by omega), uI_ne (by omega), uI_ne (by omega)]
  refine ⟨by omega, by omega, fun h => ⟨by omega, hQ _ (fin _ (by omega))⟩, fun h => ⟨by omega, hQ _ (fin _ (by omega))⟩⟩
theorem sp_X5_act_111 (h : ab_MS z A) (hI : ab_I b A) {w : Int} (hw : 0 ≤ w ∧ w ≤ 2000) {nvi low high : Int} {vi sr fr to : Nat → Int} {Q : Int → Int → Int → Int → (Nat → Int) → (Nat → Int) → (Nat → Int) → (Nat → Int) → (Nat → Int) → Prop}
    (hQ : ∀ nvi low high z2 vi sr fr to, ab_MS z2 (ab_fin A w) → Q w nvi low high z2 vi sr fr to) : wp_X5_act_111 nvi low high z vi sr fr to w Q := by
  have hS := h
  obtain ⟨h1, h2, ⟨h3, h4, h5, h6⟩, ⟨h7, h8⟩, h9, h10⟩ := h
  have i3 := hI.2.2.1
  have i6 := hI.2.2.2.2.2.1
  have hl := hI.1.2.2.1
  have hnp := ab_np_le (as_T A).1 (as_T A).2
  have hd := ab_dmax_le hI.1
  have e0 : z 636 = as_E A 0 := h9 0 (by decide)
  have e1 : z 637 = as_E A 1 := h9 1 (by decide)
  have hmul := ab_mulb (a := as_E A 0) (b := ((as_T A).1.length : Int)) (by omega) (by omega)
  have hz0 : z 0 = ((as_T A).1.length : Int) := h1.1
  unfold ab_fin at hQ
  have begin_ : ∀ nvi low high vi, as_R A = 0 ∧ ab_need A → wp_X5_act_164 nvi low high z vi sr fr to w Q := by
    intro nvi low high vi hn
    have e : ab_beg1 A = ab_beg A := by unfold ab_beg1; rw [if_pos hn]
    rw [e] at hQ
    unfold wp_X5_act_164
    exact sp_X5_beginNow hS hI (fun z2 sr fr to g => sp_X5_act_168 g (ab_I_beg hI) hw (fun z3 g3 => hQ _ _ _ _ _ _ _ _ g3))
  have skip : ∀ nvi low high vi, ¬ (as_R A = 0 ∧ ab_need A) → wp_X5_act_168 nvi low high z vi sr fr to w Q := by
    intro nvi low high vi hn
    have e : ab_beg1 A = A := by unfold ab_beg1; rw [if_neg hn]
    rw [e] at hQ
    exact sp_X5_act_168 hS hI hw (fun z3 g3 => hQ _ _ _ _ _ _ _ _ g3)
  have enp : ab_need A ↔ (100 * (((as_T A).1.length : Int) - ab_np (as_T A).1 (as_T A).2) > as_E A 0 * ((as_T A).1.length : Int) ∨ ab_dmax (as_T A).1 > as_E A 1) := Iff.rfl
  unfold wp_X5_act_111
  rw [e0, e1, hz0]
  refine ⟨by omega, fun h => skip _ _ _ _ (fun q => by omega), fun h => sp_X5_markedIn (t := 0) h1 hI.1 (Nat.zero_le _) ⟨by omega, by omega, fun h2 => begin_ _ _ _ _ ⟨by omega, enp.mpr (Or.inl h2)⟩, fun h2 => sp_X5_depthIn (t := 0) h1 hI.1 (Nat.zero_le _) (fun nvi low high vi => ⟨by omega, by omega, fun h3 => skip _ _ _ _ (fun q => ?_), fun h3 => begin_ _ _ _ _ ⟨by omega, enp.mpr (Or.inr (by omega))⟩⟩)⟩⟩
  rcases enp.mp q.2 with q | q
  · exact h2 q
  · omega
theorem sp_X5_act_73 (h : ab_MS z A) (hI : ab_I b A) {w : Int} (hw : 0 ≤ w ∧ w ≤ 120) {nvi low high : Int} {vi sr fr to : Nat → Int} {Q : Int → Int → Int → Int → (Nat → Int) → (Nat → Int) → (Nat → Int) → (Nat → Int) → (Nat → Int) → Prop}
    (hQ : ∀ nvi low high z2 vi sr fr to, ab_MS z2 (ab_fin (ab_adv (as_E A 2).toNat w A).2 (ab_adv (as_E A 2).toNat w A).1) → Q (ab_adv (as_E A 2).toNat w A).1 nvi low high z2 vi sr fr to) : ∃ n, lq7 (wp_X5_act_73 sr fr to Q) n nvi low high z vi w 0 := by
  have hE := hI.2.2.2.2.2.1.2.2
  have main : ∀ (j i : Nat) (w b : Int) (A : aS) (nvi low high : Int) (z vi : Nat → Int), (i : Int) + (j : Int) = as_E A 2 → (0 ≤ w ∧ w ≤ 120 + 120 * (i : Int)) → (as_E A 2 ≤ 8) → ab_MS z A → ab_I b A →
      (∀ nvi low high z2 vi sr fr to, ab_MS z2 (ab_fin (ab_adv j w A).2 (ab_adv j w A).1) → Q (ab_adv j w A).1 nvi low high z2 vi sr fr to) → lq7 (wp_X5_act_73 sr fr to Q) (j + 1) nvi low high z vi w (i : Int) := by
    intro j
    induction j with
    | zero =>
      intro i w b A nvi low high z vi hij hw hE h hI hQ
      have e2 : z 638 = as_E A 2 := h.2.2.2.2.1 2 (by decide)
      show wp_X5_act_73 sr fr to Q (lq7 (wp_X5_act_73 sr fr to Q) 0) nvi low high z vi w (i : Int)
      unfold wp_X5_act_73
      rw [e2]
      exact ⟨by omega, by omega, fun _ => sp_X5_act_111 h hI (by omega) hQ, fun h => absurd (by omega) h⟩
    | succ j ih =>
      intro i w b A nvi low high z vi hij hw hE h hI hQ
      have e2 : z 638 = as_E A 2 := h.2.2.2.2.1 2 (by decide)
      have er : z 482 = as_R A := h.2.2.1.2.2.2
      have hr01 := hI.2.2.1.2.2.2
      show wp_X5_act_73 sr fr to Q (lq7 (wp_X5_act_73 sr fr to Q) (j + 1)) nvi low high z vi w (i : Int)
      generalize lq7 (wp_X5_act_73 sr fr to Q) (j + 1) = K at ih ⊢
      unfold ab_adv at hQ
      unfold wp_X5_act_73
      rw [e2, er]
      refine ⟨by omega, by omega, fun h => absurd h (by omega), fun _ => ⟨by omega, fun h3 => ?_, fun h3 => ?_⟩⟩
      · rw [if_neg h3] at hQ
        exact sp_X5_act_111 h hI (by omega) hQ
      · have hr1 : as_R A = 1 := by omega
        rw [if_pos hr1] at hQ
        have hs := ab_I_st hI hr1
        refine sp_X5_makeStep h hI hr1 (fun nvi low high z2 vi g => ?_)
        have := ih (i + 1) (w + (ab_st A).1) (b + 1) (ab_st A).2 nvi low high z2 vi (by rw [hs.2.2.1]; omega) (by omega) (by rw [hs.2.2.1]; omega) g hs.1 hQ
        push_cast at this
        exact this
  exact ⟨_, main (as_E A 2).toNat 0 w b A nvi low high z vi (by omega) (by omega) (by omega) h hI hQ⟩
theorem sp_X5_act (h : ab_MS z A) (hI : ab_I b A) {how key a : Int} (hok : ab_ok (as_T A) a) (ha : (how = 0 ∧ a = key ∧ 0 ≤ key ∧ key < 500) ∨ (how = 1 ∧ a = 500 + key ∧ 0 ≤ key ∧ key < 500) ∨ (how = 2 ∧ a = -1)) {nvi low high : Int} {vi sr fr to : Nat → Int}
    {Q : Int → Int → Int → Int → (Nat → Int) → (Nat → Int) → (Nat → Int) → (Nat → Int) → (Nat → Int) → Prop} (hQ : ∀ nvi low high z2 vi sr fr to, ab_MS z2 (ab_act A a).2 → Q (ab_act A a).1 nvi low high z2 vi sr fr to) : wp_X5_act nvi low high z vi sr fr to how key Q := by
  have hE2 := ab_p2_E A a
  unfold wp_X5_act
  unfold ab_act at hQ
  refine ⟨by omega, fun h2 => ?_, fun h2 => ?_⟩
  · have ha1 : a = -1 := by omega
    simp only [if_pos ha1] at hQ
    exact sp_X5_act_73 h hI (by decide) hQ
  · have ha1 : a ≠ -1 := by omega
    simp only [if_neg ha1] at hQ
    obtain ⟨har, hI1⟩ := ab_ok_g hI hok ha1
    have hd := ab_dep_le hI.1 (a % 500)
    have hI2 := ab_I_p2 hI hok ha1
    have h1 := h.1
    have hkm : a % 500 = key := by omega
    -- behind part 1
    have rest : ∀ (z3 : Nat → Int) (nvi low high : Int) (vi : Nat → Int) (was : Int), ab_MS z3 (ab_p1 A a) → (was = 0 ∨ was = 1) → (was = 1 ↔ ab_pres (as_T A) key) → wp_X5_act_41 nvi low high z3 vi sr fr to how key (ab_dep (as_T A).1 (a % 500)) was Q := by
      intro z3 nvi low high vi was g hw01 hw
      have er : z3 482 = as_R A := g.2.2.1.2.2.2
      have hr01 := hI.2.2.1.2.2.2
      have hpres : ab_pres (as_T (ab_p1 A a)) key ↔ how = 0 := by
        show ab_pres (ab_tact (as_T A) a) key ↔ how = 0
        unfold ab_tact
        rcases ha with q | q | q
        · rw [if_pos (by omega)]
          refine ⟨fun _ => q.1, fun _ => ⟨?_, ?_⟩⟩
          · show key ∈ ab_put (as_T A).1 a
            rw [q.2.1]
            exact ab_put_mem.mpr (Or.inr rfl)
          · show uM (as_T A).2 a 0 key = 0
            unfold uM
            rw [if_pos q.2.1.symm]
        · rw [if_neg (by omega), show a - 500 = key by omega]
          refine ⟨fun hh => ?_, fun hh => by omega⟩
          have h1 : key ∈ (as_T A).1 := hh.1
          have h2 : (if key ∈ (as_T A).1 then uM (as_T A).2 key 1 else (as_T A).2) key = 0 := hh.2
          rw [if_pos h1] at h2
          unfold uM at h2
          rw [if_pos rfl] at h2
          omega
        · omega
      have hchg : ab_chg (as_T A) a ↔ ¬ ((if how = 0 then (1 : Int) else 0) = was) := by
        unfold ab_chg
        rcases ha with q | q | q
        · rw [if_pos (by omega), if_pos q.1, q.2.1]
          constructor
          · intro hh e; exact hh (hw.mp e.symm)
          · intro hh e; exact hh (hw.mpr e).symm
        · rw [if_neg (by omega), if_neg (by omega), show a - 500 = key by omega]
          constructor
          · intro hh e; have := hw.mpr hh; omega
          · intro hh; exact hw.mp (by omega)
        · omega
      unfold wp_X5_act_41
      rw [er]
      refine ⟨by omega, fun h3 => ?_, fun h3 => ?_⟩
      · have e : ab_p2 A a = ab_p1 A a := by unfold ab_p2; rw [if_neg (fun q => h3 q.1)]
        rw [e] at hQ
        exact sp_X5_act_73 g hI1 (by omega) hQ
      · have skip : (if how = 0 then (1 : Int) else 0) = was → ∃ n, lq7 (wp_X5_act_73 sr fr to Q) n nvi low high z3 vi (ab_dep (as_T A).1 (a % 500)) 0 := by
          intro hh
          have e : ab_p2 A a = ab_p1 A a := by unfold ab_p2; rw [if_neg (fun q => hchg.mp q.2 hh)]
          rw [e] at hQ
          exact sp_X5_act_73 g hI1 (by omega) hQ
        have enq : ¬ (if how = 0 then (1 : Int) else 0) = was → wp_X5_queue z3 how key (fun z_6 => (∃ n, lq7 (wp_X5_act_73 sr fr to Q) n nvi low high z_6 vi (ab_dep (as_T A).1 (a % 500)) 0)) := by
          intro hh
          have e : ab_p2 A a = ab_q (ab_p1 A a) a := by unfold ab_p2; rw [if_pos ⟨by omega, hchg.mpr hh⟩]
          rw [e] at hQ hI2 hE2
          refine sp_X5_queue (a := a) g hI1 ?_ (fun z4 g4 => ?_)
          · rcases ha with q | q | q
            · exact Or.inl ⟨q.1, q.2.1⟩
            · exact Or.inr ⟨q.1, q.2.1⟩
            · omega
          · refine sp_X5_act_73 g4 hI2 (by omega) ?_
            rw [hE2]
            exact hQ
        refine sp_X5_isPresent (t := 0) g.1 hI1.1 (Nat.zero_le _) (by omega) (fun hn => ?_) (fun hp => ?_)
        · have e : (if how = 0 then (1 : Int) else 0) = 0 := if_neg (fun q => hn (hpres.mpr q))
          rw [e] at skip enq
          exact ⟨by decide, by omega, skip, enq⟩
        · have e : (if how = 0 then (1 : Int) else 0) = 1 := if_pos (hpres.mp hp)
          rw [e] at skip enq
          exact ⟨by decide, by omega, skip, enq⟩
    have cont : ∀ was : Int, (was = 0 ∨ was = 1) → (was = 1 ↔ ab_pres (as_T A) key) → wp_X5_depthOf nvi low high z vi 0 key (fun r_2 nvi_2 low_2 high_2 vi_2 => inR how ∧ (how ≠ 0 → wp_X5_mark z 0 key (fun z_3 => wp_X5_act_41 nvi_2 low_2 high_2 z_3 vi_2 sr fr to how key r_2 was Q)) ∧ (¬ (how ≠ 0) → wp_X5_put z 0 key (fun z_4 => wp_X5_act_41 nvi_2 low_2 high_2 z_4 vi_2 sr fr to how key r_2 was Q))) := by
      intro was hw01 hw
      refine sp_X5_depthOf (t := 0) h1 hI.1 (Nat.zero_le _) (by omega) (fun nvi low high vi => ⟨by omega, fun h3 => ?_, fun h3 => ?_⟩)
      · have q := (ha.resolve_left (fun q => h3 q.1)).resolve_right (fun q => h2 q.1)
        have et : ab_tact (as_T A) a = ab_tmark (as_T A) key := by unfold ab_tact; rw [if_neg (by omega), show a - 500 = key by omega]
        rw [← hkm]
        rw [hkm]
        refine sp_X5_mark (t := 0) h1 hI.1 (Nat.zero_le _) (by omega) (fun z3 f1 f2 => ?_)
        have g : ab_MS z3 (ab_p1 A a) := by
          unfold ab_p1
          rw [et]
          exact ab_MS_T h hI (T := ab_tmark (as_T A) key) f1 f2
        have := rest z3 nvi low high vi was g hw01 hw
        rw [hkm] at this
        exact this
      · have q := ha.resolve_right (fun q => by omega)
        have et : ab_tact (as_T A) a = ab_tput (as_T A) key := by unfold ab_tact; rw [if_pos (by omega), q.2.1]
        refine sp_X5_put (t := 0) h1 hI.1 (Nat.zero_le _) (by omega) ?_ (fun z3 f1 f2 => ?_)
        · rcases hok with q2 | q2 | q2
          · exact absurd q2 ha1
          · rw [← q.2.1]; exact q2.2.2
          · omega
        · have g : ab_MS z3 (ab_p1 A a) := by
            unfold ab_p1
            rw [et]
            exact ab_MS_T h hI (T := ab_tput (as_T A) key) f1 f2
          have := rest z3 nvi low high vi was g hw01 hw
          rw [hkm] at this
          exact this
    exact sp_X5_isPresent (t := 0) h1 hI.1 (Nat.zero_le _) (by omega) (fun hn => cont 0 (Or.inl rfl) ⟨fun q => absurd q (by decide), fun q => absurd q hn⟩) (fun hp => cont 1 (Or.inr rfl) ⟨fun _ => hp, fun _ => rfl⟩)
end PK
