/-! act texts -/
def ab_ro (r c : Int) : Int :=
  if r = 500 then (if c = 46 then 502 else if c = 43 ∨ c = 45 then 501 else 503)
  else if r = 501 then (if 48 ≤ c ∧ c ≤ 57 then c - 48 else 503)
  else if c = 59 then 500
  else if ¬ (48 ≤ c ∧ c ≤ 57) ∨ r = 502 ∨ r = 0 then 503
  else if 10 * r + c - 48 < 500 then 10 * r + c - 48 else 503
theorem ab_ro_rng {r c : Int} (hr : 0 ≤ r ∧ r ≤ 502) (hc : 33 ≤ c ∧ c ≤ 126) : 0 ≤ ab_ro r c ∧ ab_ro r c ≤ 503 := by
  unfold ab_ro
  split
  · split
    · decide
    · split <;> decide
  · split
    · split
      · omega
      · decide
    · split
      · decide
      · split
        · decide
        · split
          · omega
          · decide
theorem sp_X0_readOn {r c : Int} (hr : 0 ≤ r ∧ r ≤ 502) (hc : 33 ≤ c ∧ c ≤ 126) {Q : Int → Prop} (hQ : Q (ab_ro r c)) : wp_X0_readOn r c Q := by
  have key : ∀ s0 : Int, ((s0 = 1 ∧ (48 ≤ c ∧ c ≤ 57)) ∨ (s0 = 0 ∧ ¬ (48 ≤ c ∧ c ≤ 57))) → wp_X0_readOn_17 r c s0 Q := by
    intro s0 hs
    unfold ab_ro at hQ
    unfold wp_X0_readOn_17
    refine ⟨by omega, fun h1 => ?_, fun h1 => ?_⟩
    · rw [if_neg h1] at hQ
      refine ⟨by omega, fun h2 => ?_, fun h2 => ?_⟩
      · rw [if_neg h2] at hQ
        refine ⟨by omega, fun h3 => ?_, fun h3 => ?_⟩
        · rw [if_neg h3] at hQ
          refine ⟨by omega, fun h4 => ?_, fun h4 => ⟨by omega, fun h5 => ?_, fun h5 => ⟨by omega, fun h6 => ⟨by omega, fun h7 => ?_, fun h7 => ?_⟩, fun h6 => ?_⟩⟩⟩
          · rw [if_pos (Or.inl (by omega))] at hQ; exact hQ
          · rw [if_pos (Or.inr (Or.inl h5))] at hQ; exact hQ
          · rw [if_neg (by omega), if_neg (by omega)] at hQ; exact hQ
          · rw [if_neg (by omega), if_pos (by omega)] at hQ; exact hQ
          · rw [if_pos (Or.inr (Or.inr (by omega)))] at hQ; exact hQ
        · rw [if_pos (by omega)] at hQ; exact hQ
      · rw [if_pos (by omega)] at hQ
        refine ⟨by omega, fun h3 => ?_, fun h3 => ?_⟩
        · rw [if_neg (by omega)] at hQ; exact hQ
        · rw [if_pos (by omega)] at hQ; exact hQ
    · rw [if_pos (by omega)] at hQ
      refine ⟨by omega, fun h2 => ⟨by omega, fun h3 => ?_, fun h3 => ⟨by omega, fun h4 => ?_, fun h4 => ?_⟩⟩, fun h2 => ?_⟩
      · rw [if_neg h2, if_pos (Or.inl h3)] at hQ; exact hQ
      · rw [if_neg h2, if_neg (by omega)] at hQ; exact hQ
      · rw [if_neg h2, if_pos (by omega)] at hQ; exact hQ
      · rw [if_pos (by omega)] at hQ; exact hQ
  unfold wp_X0_readOn wp_X0_readOn_16
  exact ⟨by omega, fun h => key 0 (by omega), fun h => ⟨by omega, fun h2 => key 0 (by omega), fun h2 => key 1 (by omega)⟩⟩
def ab_ao (r rm : Int) : Int := if r = 502 then -1 else if rm = 0 then r else r + 500
abbrev ab_ends (r : Int) : Prop := r < 500 ∨ r = 502
/-- the reading of a text: where its first error or its end is, and its acts if it is complete -/
def ab_pt (r rm : Int) (i : Nat) : List Int → List Int → Nat × Option (List Int)
  | [], acts => (i, if ab_ends r then some (acts ++ [ab_ao r rm]) else none)
  | c :: cs, acts => if ab_ro r c = 503 then (i, none) else ab_pt (ab_ro r c) (if r = 500 then (if c = 45 then 1 else 0) else rm) (i + 1) cs (if c = 59 ∧ ab_ends r then acts ++ [ab_ao r rm] else acts)
abbrev ab_ptx (X : List Int) : Nat × Option (List Int) := ab_pt 500 0 0 X []
theorem ab_pt_at {r rm : Int} {i : Nat} {X acts : List Int} {c : Int} (h : X[i]? = some c) : ab_pt r rm i (X.drop i) acts = if ab_ro r c = 503 then (i, none) else ab_pt (ab_ro r c) (if r = 500 then (if c = 45 then 1 else 0) else rm) (i + 1) (X.drop (i + 1)) (if c = 59 ∧ ab_ends r then acts ++ [ab_ao r rm] else acts) := by
  have hlt := (List.getElem?_eq_some_iff.mp h).1
  have e : X.drop i = c :: X.drop (i + 1) := by
    rw [List.drop_eq_getElem_cons hlt]
    rw [List.getElem?_eq_getElem hlt] at h
    rw [Option.some.inj h]
  rw [e]
  rfl
theorem ab_pt_end {r rm : Int} {i : Nat} {X acts : List Int} (h : X.length ≤ i) : ab_pt r rm i (X.drop i) acts = (i, if ab_ends r then some (acts ++ [ab_ao r rm]) else none) := by
  rw [List.drop_eq_nil_of_le h]
  rfl
theorem sp_X0_errorIndex {le : Int} {ch : Nat → Int} {X : List Int} (h : ab_CT le ch X) {Q : Int → Prop} (hQ : Q ((ab_ptx X).1 : Int)) : wp_X0_errorIndex le ch Q := by
  obtain ⟨h1, h2, h3, h4⟩ := h
  have main : ∀ (m i : Nat) (r rm : Int) (acts : List Int), i + m = X.length → (0 ≤ r ∧ r ≤ 502) → Q ((ab_pt r rm i (X.drop i) acts).1 : Int) → lq2 (wp_X0_errorIndex_6 le ch Q) (m + 1) r (i : Int) := by
    intro m
    induction m with
    | zero =>
      intro i r rm acts hi hr q
      show wp_X0_errorIndex_6 le ch Q (lq2 (wp_X0_errorIndex_6 le ch Q) 0) r (i : Int)
      unfold wp_X0_errorIndex_6
      rw [ab_pt_end (by omega)] at q
      rw [h1]
      refine ⟨by omega, by omega, fun _ => ?_, fun h => absurd (by omega) h⟩
      rw [show X.length = i by omega]
      exact q
    | succ m ih =>
      intro i r rm acts hi hr q
      show wp_X0_errorIndex_6 le ch Q (lq2 (wp_X0_errorIndex_6 le ch Q) (m + 1)) r (i : Int)
      generalize lq2 (wp_X0_errorIndex_6 le ch Q) (m + 1) = K at ih ⊢
      have hx : X[i]? = some X[i] := List.getElem?_eq_getElem (by omega)
      generalize X[i] = c at hx
      have hc := h4 c (List.mem_of_getElem? hx)
      have hci := h3 i c hx
      have hro := ab_ro_rng hr hc
      rw [ab_pt_at hx] at q
      unfold wp_X0_errorIndex_6
      simp only [Int.toNat_natCast, hci]
      refine ⟨by omega, by omega, fun h => absurd h (by omega), fun _ => ⟨by omega, sp_X0_readOn hr hc ⟨by omega, fun h => ?_, fun h => ?_⟩⟩⟩
      · rw [if_neg h] at q
        have := ih (i + 1) _ _ _ (by omega) (by omega) q
        push_cast at this
        exact this
      · rw [if_pos (by omega)] at q
        exact q
  unfold wp_X0_errorIndex
  exact ⟨_, main X.length 0 500 0 [] (by omega) (by decide) hQ⟩
theorem sp_X0_endsAct {r : Int} (hr : 0 ≤ r ∧ r ≤ 502) {Q : Int → Prop} (h0 : ¬ ab_ends r → Q 0) (h1 : ab_ends r → Q 1) : wp_X0_endsAct r Q := by
  unfold wp_X0_endsAct
  exact ⟨by omega, fun h => h1 (Or.inl h), fun h => ⟨by omega, fun h2 => h0 (by unfold ab_ends; omega), fun h2 => h1 (Or.inr (by omega))⟩⟩
theorem sp_X0_actOf {r rm : Int} (hr : 0 ≤ r ∧ r ≤ 502) (hm : rm = 0 ∨ rm = 1) {Q : Int → Prop} (hQ : Q (ab_ao r rm)) : wp_X0_actOf r rm Q := by
  unfold wp_X0_actOf
  unfold ab_ao at hQ
  refine ⟨by omega, fun h => ⟨by omega, fun h2 => ?_, fun h2 => ?_⟩, fun h => ?_⟩
  · rw [if_neg h, if_pos h2] at hQ; exact hQ
  · rw [if_neg h, if_neg h2] at hQ; exact hQ
  · rw [if_pos (by omega)] at hQ; exact hQ
theorem sp_X0_readInto {le : Int} {ch : Nat → Int} {X : List Int} (h : ab_CT le ch X) {aP : Nat → Int} {Q : Int → (Nat → Int) → Prop} (h0 : (ab_ptx X).2 = none → ∀ a, Q (-1) a)
    (hQ : ∀ acts, (ab_ptx X).2 = some acts → ∀ a, ab_ar a acts → Q (acts.length : Int) a) : wp_X0_readInto le ch aP Q := by
  obtain ⟨h1, h2, h3, h4⟩ := h
  have main : ∀ (m i : Nat) (r rm : Int) (a : Nat → Int) (acts : List Int), i + m = X.length → (0 ≤ r ∧ r ≤ 502) → (rm = 0 ∨ rm = 1) → ab_ar a acts → (2 * acts.length ≤ i ∧ (r ≠ 500 → 2 * acts.length + 1 ≤ i)) →
      ((ab_pt r rm i (X.drop i) acts).2 = none → ∀ a, Q (-1) a) → (∀ acts2, (ab_pt r rm i (X.drop i) acts).2 = some acts2 → ∀ a, ab_ar a acts2 → Q (acts2.length : Int) a) → lq5 (wp_X0_readInto_12 le ch Q) (m + 1) a r (acts.length : Int) rm (i : Int) := by
    intro m
    induction m with
    | zero =>
      intro i r rm a acts hi hr hm ha hl q0 q1
      show wp_X0_readInto_12 le ch Q (lq5 (wp_X0_readInto_12 le ch Q) 0) a r (acts.length : Int) rm (i : Int)
      unfold wp_X0_readInto_12
      rw [ab_pt_end (by omega)] at q0 q1
      refine ⟨by omega, by omega, fun _ => sp_X0_endsAct hr (fun hn => ⟨by decide, fun _ => ?_, fun q => absurd rfl q⟩) (fun he => ⟨by decide, fun q => absurd q (by decide), fun _ => ⟨by omega, fun h5 => sp_X0_actOf hr hm ⟨by omega, ?_⟩, fun h5 => absurd (by omega) h5⟩⟩), fun h => absurd (by omega) h⟩
      · refine q0 ?_ _
        show (if ab_ends r then some (acts ++ [ab_ao r rm]) else none) = none
        rw [if_neg hn]
      · have := q1 (acts ++ [ab_ao r rm]) (by
          show (if ab_ends r then some (acts ++ [ab_ao r rm]) else none) = _
          rw [if_pos he]) (uI a acts.length (ab_ao r rm)) (ab_ar_app ha)
        rw [List.length_append, List.length_singleton] at this
        push_cast at this
        simp only [Int.toNat_natCast]
        exact this
    | succ m ih =>
      intro i r rm a acts hi hr hm ha hl q0 q1
      show wp_X0_readInto_12 le ch Q (lq5 (wp_X0_readInto_12 le ch Q) (m + 1)) a r (acts.length : Int) rm (i : Int)
      generalize lq5 (wp_X0_readInto_12 le ch Q) (m + 1) = K at ih ⊢
      have hx : X[i]? = some X[i] := List.getElem?_eq_getElem (by omega)
      generalize X[i] = c at hx
      have hc := h4 c (List.mem_of_getElem? hx)
      have hci := h3 i c hx
      have hro := ab_ro_rng hr hc
      rw [ab_pt_at hx] at q0 q1
      -- the last step of the round
      have last : ∀ (a2 : Nat → Int) (acts2 : List Int) (rm2 : Int), acts2 = (if c = 59 ∧ ab_ends r then acts ++ [ab_ao r rm] else acts) → rm2 = (if r = 500 then (if c = 45 then 1 else 0) else rm) → ab_ar a2 acts2 → wp_X0_readInto_84 le ch a2 r (acts2.length : Int) rm2 (i : Int) Q K := by
        intro a2 acts2 rm2 e1 e2 ha2
        rw [← e1, ← e2] at q0 q1
        unfold wp_X0_readInto_84
        simp only [Int.toNat_natCast, hci]
        refine ⟨by omega, sp_X0_readOn hr hc ⟨by omega, fun h => ?_, fun h => ?_⟩⟩
        · rw [if_neg h] at q0 q1
          have hlen : 2 * acts2.length ≤ i + 1 ∧ (ab_ro r c ≠ 500 → 2 * acts2.length + 1 ≤ i + 1) := by
            by_cases h59 : c = 59 ∧ ab_ends r
            · rw [if_pos h59] at e1
              have hr5 : r ≠ 500 := by unfold ab_ends at h59; omega
              have := hl.2 hr5
              have e500 : ab_ro r c = 500 := by
                unfold ab_ro
                unfold ab_ends at h59
                rw [if_neg (by omega), if_neg (by omega), if_pos h59.1]
              rw [e1, List.length_append, List.length_singleton]
              exact ⟨by omega, fun q => absurd e500 q⟩
            · rw [if_neg h59] at e1
              rw [e1]
              refine ⟨by omega, fun q => ?_⟩
              by_cases hr5 : r = 500
              · omega
              · have := hl.2 hr5; omega
          have := ih (i + 1) (ab_ro r c) rm2 a2 acts2 (by omega) (by omega) (by rw [e2]; split <;> (try split) <;> first | exact hm | simp) ha2 hlen q0 q1
          push_cast at this
          exact this
        · rw [if_pos (by omega)] at q0
          exact q0 rfl a2
      have mid : ∀ (a2 : Nat → Int) (acts2 : List Int), acts2 = (if c = 59 ∧ ab_ends r then acts ++ [ab_ao r rm] else acts) → ab_ar a2 acts2 → wp_X0_readInto_58 le ch a2 r (acts2.length : Int) rm (i : Int) Q K := by
        intro a2 acts2 e1 ha2
        unfold wp_X0_readInto_58 wp_X0_readInto_82
        simp only [Int.toNat_natCast, hci]
        refine ⟨by omega, fun h => last a2 acts2 rm e1 (by rw [if_neg h]) ha2, fun h => ⟨by omega, by omega, fun h5 => last a2 acts2 0 e1 (by rw [if_pos (by omega), if_neg h5]) ha2, fun h5 => last a2 acts2 1 e1 (by rw [if_pos (by omega), if_pos (by omega)]) ha2⟩⟩
      unfold wp_X0_readInto_12
      simp only [Int.toNat_natCast, hci]
      refine ⟨by omega, by omega, fun h => absurd h (by omega), fun _ => ⟨by omega, by omega, fun h5 => mid a acts (by rw [if_neg (fun q => h5 q.1)]) ha, fun h5 => sp_X0_endsAct hr (fun hn => ⟨by decide, fun _ => mid a acts (by rw [if_neg (fun q => hn q.2)]) ha, fun q => absurd rfl q⟩) (fun he => ⟨by decide, fun q => absurd q (by decide), fun _ => ⟨by omega, fun h6 => absurd h6 (by omega), fun _ => sp_X0_actOf hr hm ⟨by omega, ?_⟩⟩⟩)⟩⟩
      have := mid (uI a acts.length (ab_ao r rm)) (acts ++ [ab_ao r rm]) (by rw [if_pos ⟨by omega, he⟩]) (ab_ar_app ha)
      rw [List.length_append, List.length_singleton] at this
      push_cast at this
      exact this
  unfold wp_X0_readInto
  exact ⟨_, main X.length 0 500 0 aP [] (by omega) (by decide) (Or.inl rfl) (fun i x hx => by simp at hx) (by simp) h0 hQ⟩
/-! the reference's reading -/
def ab_en (ho ke : Nat → Int) (acts : List Int) : Prop := ∀ (j : Nat) (a : Int), acts[j]? = some a → (ho j = 2 ∧ a = -1 ∧ inR (ke j)) ∨ (ho j = 0 ∧ a = ke j ∧ 0 ≤ ke j ∧ ke j < 500) ∨ (ho j = 1 ∧ a = 500 + ke j ∧ 0 ≤ ke j ∧ ke j < 500)
theorem ab_en_app {ho ke : Nat → Int} {acts : List Int} (h : ab_en ho ke acts) {hw ky a : Int} (ha : (hw = 2 ∧ a = -1 ∧ inR ky) ∨ (hw = 0 ∧ a = ky ∧ 0 ≤ ky ∧ ky < 500) ∨ (hw = 1 ∧ a = 500 + ky ∧ 0 ≤ ky ∧ ky < 500)) : ab_en (uI ho acts.length hw) (uI ke acts.length ky) (acts ++ [a]) := by
  intro j y hj
  by_cases hj2 : j < acts.length
  · rw [List.getElem?_append_left hj2] at hj
    rw [uI_ne (by omega), uI_ne (by omega)]
    exact h j y hj
  · rw [List.getElem?_append_right (by omega)] at hj
    have hlt := (List.getElem?_eq_some_iff.mp hj).1
    simp at hlt
    have e : j = acts.length := by omega
    subst e
    rw [uI_eq, uI_eq]
    have : a = y := by simpa using hj
    rw [← this]
    exact ha
section PQ5
variable {le : Int} {tx : Nat → Int} {X : List Int}
/-- nothing can follow but an error or ';' -/
def ab_stuck (X : List Int) (q : Nat) (r : Int) : Prop := ∀ c, X[q]? = some c → c = 59 ∨ ab_ro r c = 503
end PQ5
