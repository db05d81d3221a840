/-! act texts -/
def ab_ro (r c : Int) : Int :=
  if r = 500 then (if c = 46 then 502 else if c = 43 ∨ c = 45 then 501 else 503)
  else if r = 501 then (if 48 ≤ c ∧ c ≤ 57 then c - 48 else 503)
  else if c = 59 then 500
  else if ¬ (48 ≤ c ∧ c ≤ 57) ∨ r = 502 ∨ r = 0 then 503
  else if 10 * r + c - 48 < 500 then 10 * r + c - 48 else 503
theorem ab_ro_rng {r c : Int} (hr : 0 ≤ r ∧ r ≤ 502) (hc : 33 ≤ c ∧ c ≤ 126) : 0 ≤ ab_ro r c ∧ ab_ro r c ≤ 503 := by
  unfold ab_ro
  split
  · split
    · decide
    · split <;> decide
  · split
    · split
      · omega
      · decide
    · split
      · decide
      · split
        · decide
        · split
          · omega
          · decide
theorem sp_X0_readOn {r c : Int} (hr : 0 ≤ r ∧ r ≤ 502) (hc : 33 ≤ c ∧ c ≤ 126) {Q : Int → Prop} (hQ : Q (ab_ro r c)) : wp_X0_readOn r c Q := by
  have key : ∀ s0 : Int, ((s0 = 1 ∧ (48 ≤ c ∧ c ≤ 57)) ∨ (s0 = 0 ∧ ¬ (48 ≤ c ∧ c ≤ 57))) → wp_X0_readOn_17 r c s0 Q := by
    intro s0 hs
    unfold ab_ro at hQ
    unfold wp_X0_readOn_17
    refine ⟨by omega, fun h1 => ?_, fun h1 => ?_⟩
    · rw [if_neg h1] at hQ
      refine ⟨by omega, fun h2 => ?_, fun h2 => ?_⟩
      · rw [if_neg h2] at hQ
        refine ⟨by omega, fun h3 => ?_, fun h3 => ?_⟩
        · rw [if_neg h3] at hQ
          refine ⟨by omega, fun h4 => ?_, fun h4 => ⟨by omega, fun h5 => ?_, fun h5 => ⟨by omega, fun h6 => ⟨by omega, fun h7 => ?_, fun h7 => ?_⟩, fun h6 => ?_⟩⟩⟩
          · rw [if_pos (Or.inl (by omega))] at hQ; exact hQ
          · rw [if_pos (Or.inr (Or.inl h5))] at hQ; exact hQ
          · rw [if_neg (by omega), if_neg (by omega)] at hQ; exact hQ
          · rw [if_neg (by omega), if_pos (by omega)] at hQ; exact hQ
          · rw [if_pos (Or.inr (Or.inr (by omega)))] at hQ; exact hQ
        · rw [if_pos (by omega)] at hQ; exact hQ
      · rw [if_pos (by omega)] at hQ
        refine ⟨by omega, fun h3 => ?_, fun h3 => ?_⟩
        · rw [if_neg (by omega)] at hQ; exact hQ
        · rw [if_pos (by omega)] at hQ; exact hQ
    · rw [if_pos (by omega)] at hQ
      refine ⟨by omega, fun h2 => ⟨by omega, fun h3 => ?_, fun h3 => ⟨by omega, fun h4 => ?_, fun h4 => ?_⟩⟩, fun h2 => ?_⟩
      · rw [if_neg h2, if_pos (Or.inl h3)] at hQ; exact hQ
      · rw [if_neg h2, if_neg (by omega)] at hQ; exact hQ
      · rw [if_neg h2, if_pos (by omega)] at hQ; exact hQ
      · rw [if_pos (by omega)] at hQ; exact hQ
  unfold wp_X0_readOn wp_X0_readOn_16
  exact ⟨by omega, fun h => key 0 (by omega), fun h => ⟨by omega, fun h2 => key 0 (by omega), fun h2 => key 1 (by omega)⟩⟩
def ab_ao (r rm : Int) : Int := if r = 502 then -1 else if rm = 0 then r else r + 500
abbrev ab_ends (r : Int) : Prop := r < 500 ∨ r = 502
/-- the reading of a text: where its first error or its end is, and its acts if it is complete -/
def ab_pt (r rm : Int) (i : Nat) : List Int → List Int → Nat × Option (List Int)
  | [], acts => (i, if ab_ends r then some (acts ++ [ab_ao r rm]) else none)
  | c :: cs, acts => if ab_ro r c = 503 then (i, none) else ab_pt (ab_ro r c) (if r = 500 then (if c = 45 then 1 else 0) else rm) (i + 1) cs (if c = 59 ∧ ab_ends r then acts ++ [ab_ao r rm] else acts)
abbrev ab_ptx (X : List Int) : Nat × Option (List Int) := ab_pt 500 0 0 X []
theorem ab_pt_at {r rm : Int} {i : Nat} {X acts : List Int} {c : Int} (h : X[i]? = some c) : ab_pt r rm i (X.drop i) acts = if ab_ro r c = 503 then (i, none) else ab_pt (ab_ro r c) (if r = 500 then (if c = 45 then 1 else 0) else rm) (i + 1) (X.drop (i + 1)) (if c = 59 ∧ ab_ends r then acts ++ [ab_ao r rm] else acts) := by
  have hlt := (List.getElem?_eq_some_iff.mp h).1
  have e : X.drop i = c :: X.drop (i + 1) := by
    rw [List.drop_eq_getElem_cons hlt]
    rw [List.getElem?_eq_getElem hlt] at h
    rw [Option.some.inj h]
  rw [e]
  rfl
theorem ab_pt_end {r rm : Int} {i : Nat} {X acts : List Int} (h : X.length ≤ i) : ab_pt r rm i (X.drop i) acts = (i, if ab_ends r then some (acts ++ [ab_ao r rm]) else none) := by
  rw [List.drop_eq_nil_of_le h]
  rfl
theorem sp_X0_errorIndex {le : Int} {ch : Nat → Int} {X : List Int} (h : ab_CT le ch X) {Q : Int → Prop} (hQ : Q ((ab_ptx X).1 : Int)) : wp_X0_errorIndex le ch Q := by
  obtain ⟨h1, h2, h3, h4⟩ := h
  have main : ∀ (m i : Nat) (r rm : Int) (acts : List Int), i + m = X.length → (0 ≤ r ∧ r ≤ 502) → Q ((ab_pt r rm i (X.drop i) acts).1 : Int) → lq2 (wp_X0_errorIndex_6 le ch Q) (m + 1) r (i : Int) := by
    intro m
    induction m with
    | zero =>
      intro i r rm acts hi hr q
      show wp_X0_errorIndex_6 le ch Q (lq2 (wp_X0_errorIndex_6 le ch Q) 0) r (i : Int)
      unfold wp_X0_errorIndex_6
      rw [ab_pt_end (by omega)] at q
      rw [h1]
      refine ⟨by omega, by omega, fun _ => ?_, fun h => absurd (by omega) h⟩
      rw [show X.length = i by omega]
      exact q
    | succ m ih =>
      intro i r rm acts hi hr q
      show wp_X0_errorIndex_6 le ch Q (lq2 (wp_X0_errorIndex_6 le ch Q) (m + 1)) r (i : Int)
      generalize lq2 (wp_X0_errorIndex_6 le ch Q) (m + 1) = K at ih ⊢
      have hx : X[i]? = some X[i] := List.getElem?_eq_getElem (by omega)
      generalize X[i] = c at hx
      have hc := h4 c (List.mem_of_getElem? hx)
      have hci := h3 i c hx
      have hro := ab_ro_rng hr hc
      rw [ab_pt_at hx] at q
      unfold wp_X0_errorIndex_6
      simp only [Int.toNat_natCast, hci]
      refine ⟨by omega, by omega, fun h => absurd h (by omega), fun _ => ⟨by omega, sp_X0_readOn hr hc ⟨by omega, fun h => ?_, fun h => ?_⟩⟩⟩
      · rw [if_neg h] at q
        have := ih (i + 1) _ _ _ (by omega) (by omega) q
        push_cast at this
        exact this
      · rw [if_pos (by omega)] at q
        exact q
  unfold wp_X0_errorIndex
  exact ⟨_, main X.length 0 500 0 [] (by omega) (by decide) hQ⟩
theorem sp_X0_endsAct {r : Int} (hr : 0 ≤ r ∧ r ≤ 502) {Q : Int → Prop} (h0 : ¬ ab_ends r → Q 0) (h1 : ab_ends r → Q 1) : wp_X0_endsAct r Q := by
  unfold wp_X0_endsAct
  exact ⟨by omega, fun h => h1 (Or.inl h), fun h => ⟨by omega, fun h2 => h0 (by unfold ab_ends; omega), fun h2 => h1 (Or.inr (by omega))⟩⟩
theorem sp_X0_actOf {r rm : Int} (hr : 0 ≤ r ∧ r ≤ 502) (hm : rm = 0 ∨ rm = 1) {Q : Int → Prop} (hQ : Q (ab_ao r rm)) : wp_X0_actOf r rm Q := by
  unfold wp_X0_actOf
  unfold ab_ao at hQ
  refine ⟨by omega, fun h => ⟨by omega, fun h2 => ?_, fun h2 => ?_⟩, fun h => ?_⟩
  · rw [if_neg h, if_pos h2] at hQ; exact hQ
  · rw [if_neg h, if_neg h2] at hQ; exact hQ
  · rw [if_pos (by omega)] at hQ; exact hQ
theorem sp_X0_readInto {le : Int} {ch : Nat → Int} {X : List Int} (h : ab_CT le ch X) {aP : Nat → Int} {Q : Int → (Nat → Int) → Prop} (h0 : (ab_ptx X).2 = none → ∀ a, Q (-1) a)
    (hQ : ∀ acts, (ab_ptx X).2 = some acts → ∀ a, ab_ar a acts → Q (acts.length : Int) a) : wp_X0_readInto le ch aP Q := by
  obtain ⟨h1, h2, h3, h4⟩ := h
  have main : ∀ (m i : Nat) (r rm : Int) (a : Nat → Int) (acts : List Int), i + m = X.length → (0 ≤ r ∧ r ≤ 502) → (rm = 0 ∨ rm = 1) → ab_ar a acts → (2 * acts.length ≤ i ∧ (r ≠ 500 → 2 * acts.length + 1 ≤ i)) →
      ((ab_pt r rm i (X.drop i) acts).2 = none → ∀ a, Q (-1) a) → (∀ acts2, (ab_pt r rm i (X.drop i) acts).2 = some acts2 → ∀ a, ab_ar a acts2 → Q (acts2.length : Int) a) → lq5 (wp_X0_readInto_12 le ch Q) (m + 1) a r (acts.length : Int) rm (i : Int) := by
    intro m
    induction m with
    | zero =>
      intro i r rm a acts hi hr hm ha hl q0 q1
      show wp_X0_readInto_12 le ch Q (lq5 (wp_X0_readInto_12 le ch Q) 0) a r (acts.length : Int) rm (i : Int)
      unfold wp_X0_readInto_12
      rw [ab_pt_end (by omega)] at q0 q1
      refine ⟨by omega, by omega, fun _ => sp_X0_endsAct hr (fun hn => ⟨by decide, fun _ => ?_, fun q => absurd rfl q⟩) (fun he => ⟨by decide, fun q => absurd q (by decide), fun _ => ⟨by omega, fun h5 => sp_X0_actOf hr hm ⟨by omega, ?_⟩, fun h5 => absurd (by omega) h5⟩⟩), fun h => absurd (by omega) h⟩
      · refine q0 ?_ _
        show (if ab_ends r then some (acts ++ [ab_ao r rm]) else none) = none
        rw [if_neg hn]
      · have := q1 (acts ++ [ab_ao r rm]) (by
          show (if ab_ends r then some (acts ++ [ab_ao r rm]) else none) = _
          rw [if_pos he]) (uI a acts.length (ab_ao r rm)) (ab_ar_app ha)
        rw [List.length_append, List.length_singleton] at this
        push_cast at this
        simp only [Int.toNat_natCast]
        exact this
    | succ m ih =>
      intro i r rm a acts hi hr hm ha hl q0 q1
      show wp_X0_readInto_12 le ch Q (lq5 (wp_X0_readInto_12 le ch Q) (m + 1)) a r (acts.length : Int) rm (i : Int)
      generalize lq5 (wp_X0_readInto_12 le ch Q) (m + 1) = K at ih ⊢
      have hx : X[i]? = some X[i] := List.getElem?_eq_getElem (by omega)
      generalize X[i] = c at hx
      have hc := h4 c (List.mem_of_getElem? hx)
      have hci := h3 i c hx
      have hro := ab_ro_rng hr hc
      rw [ab_pt_at hx] at q0 q1
      -- the last step of the round
      have last : ∀ (a2 : Nat → Int) (acts2 : List Int) (rm2 : Int), acts2 = (if c = 59 ∧ ab_ends r then acts ++ [ab_ao r rm] else acts) → rm2 = (if r = 500 then (if c = 45 then 1 else 0) else rm) → ab_ar a2 acts2 → wp_X0_readInto_84 le ch a2 r (acts2.length : Int) rm2 (i : Int) Q K := by
        intro a2 acts2 rm2 e1 e2 ha2
        rw [← e1, ← e2] at q0 q1
        unfold wp_X0_readInto_84
        simp only [Int.toNat_natCast, hci]
        refine ⟨by omega, sp_X0_readOn hr hc ⟨by omega, fun h => ?_, fun h => ?_⟩⟩
        · rw [if_neg h] at q0 q1
          have hlen : 2 * acts2.length ≤ i + 1 ∧ (ab_ro r c ≠ 500 → 2 * acts2.length + 1 ≤ i + 1) := by
            by_cases h59 : c = 59 ∧ ab_ends r
            · rw [if_pos h59] at e1
              have hr5 : r ≠ 500 := by unfold ab_ends at h59; omega
              have := hl.2 hr5
              have e500 : ab_ro r c = 500 := by
                unfold ab_ro
                unfold ab_ends at h59
                rw [if_neg (by omega), if_neg (by omega), if_pos h59.1]
              rw [e1, List.length_append, List.length_singleton]
              exact ⟨by omega, fun q => absurd e500 q⟩
            · rw [if_neg h59] at e1
              rw [e1]
              refine ⟨by omega, fun q => ?_⟩
              by_cases hr5 : r = 500
              · omega
              · have := hl.2 hr5; omega
          have := ih (i + 1) (ab_ro r c) rm2 a2 acts2 (by omega) (by omega) (by rw [e2]; split <;> (try split) <;> first | exact hm | simp) ha2 hlen q0 q1
          push_cast at this
          exact this
        · rw [if_pos (by omega)] at q0
          exact q0 rfl a2
      have mid : ∀ (a2 : Nat → Int) (acts2 : List Int), acts2 = (if c = 59 ∧ ab_ends r then acts ++ [ab_ao r rm] else acts) → ab_ar a2 acts2 → wp_X0_readInto_58 le ch a2 r (acts2.length : Int) rm (i : Int) Q K := by
        intro a2 acts2 e1 ha2
        unfold wp_X0_readInto_58 wp_X0_readInto_82
        simp only [Int.toNat_natCast, hci]
        refine ⟨by omega, fun h => last a2 acts2 rm e1 (by rw [if_neg h]) ha2, fun h => ⟨by omega, by omega, fun h5 => last a2 acts2 0 e1 (by rw [if_pos (by omega), if_neg h5]) ha2, fun h5 => last a2 acts2 1 e1 (by rw [if_pos (by omega), if_pos (by omega)]) ha2⟩⟩
      unfold wp_X0_readInto_12
      simp only [Int.toNat_natCast, hci]
      refine ⟨by omega, by omega, fun h => absurd h (by omega), fun _ => ⟨by omega, by omega, fun h5 => mid a acts (by rw [if_neg (fun q => h5 q.1)]) ha, fun h5 => sp_X0_endsAct hr (fun hn => ⟨by decide, fun _ => mid a acts (by rw [if_neg (fun q => hn q.2)]) ha, fun q => absurd rfl q⟩) (fun he => ⟨by decide, fun q => absurd q (by decide), fun _ => ⟨by omega, fun h6 => absurd h6 (by omega), fun _ => sp_X0_actOf hr hm ⟨by omega, ?_⟩⟩⟩)⟩⟩
      have := mid (uI a acts.length (ab_ao r rm)) (acts ++ [ab_ao r rm]) (by rw [if_pos ⟨by omega, he⟩]) (ab_ar_app ha)
      rw [List.length_append, List.length_singleton] at this
      push_cast at this
      exact this
  unfold wp_X0_readInto
  exact ⟨_, main X.length 0 500 0 aP [] (by omega) (by decide) (Or.inl rfl) (fun i x hx => by simp at hx) (by simp) h0 hQ⟩
/-! the reference's reading -/
def ab_en (ho ke : Nat → Int) (acts : List Int) : Prop := ∀ (j : Nat) (a : Int), acts[j]? = some a → (ho j = 2 ∧ a = -1 ∧ inR (ke j)) ∨ (ho j = 0 ∧ a = ke j ∧ 0 ≤ ke j ∧ ke j < 500) ∨ (ho j = 1 ∧ a = 500 + ke j ∧ 0 ≤ ke j ∧ ke j < 500)
theorem ab_en_app {ho ke : Nat → Int} {acts : List Int} (h : ab_en ho ke acts) {hw ky a : Int} (ha : (hw = 2 ∧ a = -1 ∧ inR ky) ∨ (hw = 0 ∧ a = ky ∧ 0 ≤ ky ∧ ky < 500) ∨ (hw = 1 ∧ a = 500 + ky ∧ 0 ≤ ky ∧ ky < 500)) : ab_en (uI ho acts.length hw) (uI ke acts.length ky) (acts ++ [a]) := by
  intro j y hj
  by_cases hj2 : j < acts.length
  · rw [List.getElem?_append_left hj2] at hj
    rw [uI_ne (by omega), uI_ne (by omega)]
    exact h j y hj
  · rw [List.getElem?_append_right (by omega)] at hj
    have hlt := (List.getElem?_eq_some_iff.mp hj).1
    simp at hlt
    have e : j = acts.length := by omega
    subst e
    rw [uI_eq, uI_eq]
    have : a = y := by simpa using hj
    rw [← this]
    exact ha
section PQ5
variable {le : Int} {tx : Nat → Int} {X : List Int}
theorem sp_X5_sees (h : ab_CT le tx X) {p : Nat} (hp : p ≤ X.length) {lo hi : Int} (h1 : inR lo) (h2 : inR hi) {Q : Int → Prop} (h0 : (∀ c, X[p]? = some c → ¬ (lo ≤ c ∧ c ≤ hi)) → Q 0) (hQ : ∀ c, X[p]? = some c → lo ≤ c ∧ c ≤ hi → Q 1) : wp_X5_sees le (p : Int) tx lo hi Q := by
  obtain ⟨g1, g2, g3, g4⟩ := h
  unfold wp_X5_sees
  refine ⟨by omega, by omega, fun q => h0 (fun c hc => ?_), fun q => ⟨by omega, ?_⟩⟩
  · have := (List.getElem?_eq_some_iff.mp hc).1; omega
  · have hx : X[p]? = some X[p] := List.getElem?_eq_getElem (by omega)
    generalize X[p] = c at hx
    have hc := g4 c (List.mem_of_getElem? hx)
    rw [Int.toNat_natCast, g3 p c hx]
    refine sp_X5_in (by omega) h1 h2 (fun hn => ⟨by decide, fun _ => h0 (fun c2 hc2 => ?_), fun q => absurd rfl q⟩) (fun hy => ⟨by decide, fun q => absurd q (by decide), fun _ => hQ c hx hy⟩)
    rw [hx] at hc2
    rw [← Option.some.inj hc2]
    exact hn
theorem sp_X5_takes (h : ab_CT le tx X) {p : Nat} (hp : p ≤ X.length) {k : Int} (hk : inR k) {Q : Int → Int → Prop} (h0 : X[p]? ≠ some k → Q 0 (p : Int)) (hQ : X[p]? = some k → Q 1 ((p + 1 : Nat) : Int)) : wp_X5_takes le (p : Int) tx k Q := by
  unfold wp_X5_takes
  refine sp_X5_sees h hp hk hk (fun hn => ⟨by decide, fun _ => ⟨Or.inl rfl, ?_⟩, fun q => absurd rfl q⟩) (fun c hc hy => ⟨by decide, fun q => absurd q (by decide), fun _ => ⟨Or.inr rfl, ?_⟩⟩)
  · rw [Int.add_zero]
    exact h0 (fun q => hn k q ⟨Int.le_refl _, Int.le_refl _⟩)
  · have : c = k := by omega
    subst this
    have := hQ hc
    push_cast at this
    exact this
/-- nothing can follow but an error or ';' -/
def ab_stuck (X : List Int) (q : Nat) (r : Int) : Prop := ∀ c, X[q]? = some c → c = 59 ∨ ab_ro r c = 503
theorem sp_X5_readKey (h : ab_CT le tx X) {p : Nat} (hp : p ≤ X.length) {rm : Int} {acts : List Int} {Q : Int → Int → Prop} (h0 : (∀ c, X[p]? = some c → ab_ro 501 c = 503) → Q (-1) (p : Int))
    (hQ : ∀ (v : Int) (q : Nat), (0 ≤ v ∧ v < 500) → p < q → q ≤ X.length → ab_stuck X q v → ab_pt 501 rm p (X.drop p) acts = ab_pt v rm q (X.drop q) acts → Q v (q : Int)) : wp_X5_readKey le (p : Int) tx Q := by
  have hCT := h
  obtain ⟨g1, g2, g3, g4⟩ := h
  have main : ∀ (m q : Nat) (v : Int), q + m = X.length → ((v = -1 ∧ q = p) ∨ ((0 ≤ v ∧ v < 500) ∧ p < q ∧ ab_pt 501 rm p (X.drop p) acts = ab_pt v rm q (X.drop q) acts)) → lq2 (wp_X5_readKey_2 le tx Q) (m + 1) (q : Int) v := by
    intro m
    induction m with
    | zero =>
      intro q v hq hv
      show wp_X5_readKey_2 le tx Q (lq2 (wp_X5_readKey_2 le tx Q) 0) (q : Int) v
      unfold wp_X5_readKey_2
      refine sp_X5_sees hCT (by omega) (by decide) (by decide) (fun hn => ⟨by decide, fun _ => ?_, fun q => absurd rfl q⟩) (fun c hc => by have := (List.getElem?_eq_some_iff.mp hc).1; omega)
      rcases hv with ⟨hv1, hv2⟩ | ⟨hv1, hv2, hv3⟩
      · subst hv1 hv2
        exact h0 (fun c hc => by have := (List.getElem?_eq_some_iff.mp hc).1; omega)
      · exact hQ v q hv1 hv2 (by omega) (fun c hc => by have := (List.getElem?_eq_some_iff.mp hc).1; omega) hv3
    | succ m ih =>
      intro q v hq hv
      show wp_X5_readKey_2 le tx Q (lq2 (wp_X5_readKey_2 le tx Q) (m + 1)) (q : Int) v
      generalize lq2 (wp_X5_readKey_2 le tx Q) (m + 1) = K at ih ⊢
      unfold wp_X5_readKey_2
      refine sp_X5_sees hCT (by omega) (by decide) (by decide) (fun hn => ⟨by decide, fun _ => ?_, fun q => absurd rfl q⟩) (fun c hc hd => ⟨by decide, fun q => absurd q (by decide), fun _ => ?_⟩)
      · rcases hv with ⟨hv1, hv2⟩ | ⟨hv1, hv2, hv3⟩
        · subst hv1 hv2
          refine h0 (fun c hc => ?_)
          have := hn c hc
          unfold ab_ro
          rw [if_neg (by decide), if_pos rfl, if_neg this]
        · refine hQ v q hv1 hv2 (by omega) (fun c hc => ?_) hv3
          have := hn c hc
          unfold ab_ro
          by_cases h59 : c = 59
          · exact Or.inl h59
          · right
            rw [if_neg (by omega), if_neg (by omega), if_neg h59, if_pos (Or.inl this)]
      · have hcr := g4 c (List.mem_of_getElem? hc)
        have htc := g3 q c hc
        have hpt := ab_pt_at (r := v) (rm := rm) (acts := acts) hc
        have hpt1 := ab_pt_at (r := 501) (rm := rm) (acts := acts) hc
        have nx : ∀ v2 : Int, ((0 ≤ v2 ∧ v2 < 500) ∧ ab_pt 501 rm p (X.drop p) acts = ab_pt v2 rm (q + 1) (X.drop (q + 1)) acts) → K ((q : Int) + 1) v2 := by
          intro v2 hv2
          have := ih (q + 1) v2 (by omega) (Or.inr ⟨hv2.1, by rcases hv with h | h <;> omega, hv2.2⟩)
          push_cast at this
          exact this
        refine ⟨by omega, fun h1 => ?_, fun h1 => ⟨by omega, fun h2 => ?_, fun h2 => ?_⟩⟩
        · have hqp : q = p := by rcases hv with h | h <;> omega
          unfold wp_X5_readKey_45 wp_X5_readKey_82
          simp only [Int.toNat_natCast, htc]
          refine ⟨by omega, fun h3 => absurd h1 h3, fun _ => ⟨by omega, nx _ ⟨by omega, ?_⟩⟩⟩
          have e : ab_ro 501 c = c - 48 := by
            unfold ab_ro
            rw [if_neg (by decide), if_pos rfl, if_pos hd]
          rw [e, if_neg (by omega), if_neg (by decide), if_neg (by omega)] at hpt1
          rw [← hqp]
          exact hpt1
        · -- 0 stands alone
          obtain ⟨hv1, hv2, hv3⟩ := hv.resolve_left (fun q => h1 q.1)
          refine hQ v q hv1 hv2 (by omega) (fun c2 hc2 => ?_) hv3
          rw [hc] at hc2
          have hcc := Option.some.inj hc2
          subst hcc
          right
          unfold ab_ro
          rw [if_neg (by omega), if_neg (by omega), if_neg (by omega), if_pos (Or.inr (Or.inr (by omega)))]
        · obtain ⟨hv1, hv2, hv3⟩ := hv.resolve_left (fun q => h1 q.1)
          simp only [Int.toNat_natCast, htc]
          refine ⟨by omega, by omega, fun h3 => ?_, fun h3 => ?_⟩
          · refine hQ v q hv1 hv2 (by omega) (fun c2 hc2 => ?_) hv3
            rw [hc] at hc2
            have hcc := Option.some.inj hc2
            subst hcc
            right
            unfold ab_ro
            rw [if_neg (by omega), if_neg (by omega), if_neg (by omega), if_neg (by omega), if_neg (by omega)]
          · unfold wp_X5_readKey_45 wp_X5_readKey_82
            simp only [Int.toNat_natCast, htc]
            refine ⟨by omega, fun _ => ⟨by omega, nx _ ⟨by omega, ?_⟩⟩, fun h4 => absurd h1 h4⟩
            have e : ab_ro v c = 10 * v + c - 48 := by
              unfold ab_ro
              rw [if_neg (by omega), if_neg (by omega), if_neg (by omega), if_neg (by omega), if_pos (by omega)]
            rw [e, if_neg (by omega), if_neg (by omega), if_neg (by omega)] at hpt
            rw [hv3, hpt]
  unfold wp_X5_readKey
  exact ⟨_, main (X.length - p) p (-1) (by omega) (Or.inl ⟨rfl, rfl⟩)⟩
theorem sp_X5_readAct (h : ab_CT le tx X) {p : Nat} (hp : p ≤ X.length) {rm : Int} {acts : List Int} (hl : 2 * acts.length ≤ p) {ho ke : Nat → Int} (hen : ab_en ho ke acts) {Q : Int → Int → Int → (Nat → Int) → (Nat → Int) → Prop}
    (h0 : ∀ q : Nat, ab_pt 500 rm p (X.drop p) acts = (q, none) → Q 0 (acts.length : Int) (q : Int) ho ke)
    (hQ : ∀ (r rm2 : Int) (q : Nat) (ho ke : Nat → Int), ab_ends r → (0 ≤ r ∧ r ≤ 502) → p < q → q ≤ X.length → ab_stuck X q r → ab_pt 500 rm p (X.drop p) acts = ab_pt r rm2 q (X.drop q) acts → ab_en ho ke (acts ++ [ab_ao r rm2]) → Q 1 ((acts.length : Int) + 1) (q : Int) ho ke) :
    wp_X5_readAct le (acts.length : Int) (p : Int) tx ho ke Q := by
  have hCT := h
  obtain ⟨g1, g2, g3, g4⟩ := h
  -- behind a sign
  have signed : ∀ (c rm2 x1 x2 : Int), X[p]? = some c → ((c = 43 ∧ rm2 = 0 ∧ x1 = 1 ∧ x2 = 0) ∨ (c = 45 ∧ rm2 = 1 ∧ x1 = 0 ∧ x2 = 1)) → wp_X5_readKey le ((p + 1 : Nat) : Int) tx (fun r_4 spo_4 => wp_X5_readAct_75 le (acts.length : Int) spo_4 tx ho ke x1 x2 r_4 Q) := by
    intro c rm2 x1 x2 hc hcc
    have hlt := (List.getElem?_eq_some_iff.mp hc).1
    have e501 : ab_ro 500 c = 501 := by
      unfold ab_ro
      rw [if_pos rfl, if_neg (by omega), if_pos (by omega)]
    have hpt := ab_pt_at (r := 500) (rm := rm) (acts := acts) hc
    rw [e501, if_neg (by decide), if_pos rfl, show (if c = 45 then (1 : Int) else 0) = rm2 by rcases hcc with q | q <;> simp [q.1, q.2.1], if_neg (fun q => by omega)] at hpt
    refine sp_X5_readKey hCT (p := p + 1) (by omega) (rm := rm2) (acts := acts) (fun hno => ?_) (fun v q hv hpq hq hst hpt2 => ?_)
    · unfold wp_X5_readAct_75
      refine ⟨by decide, fun q => absurd rfl q, fun _ => ?_⟩
      have := h0 (p + 1) (by
        rw [hpt]
        by_cases hend : X.length ≤ p + 1
        · rw [ab_pt_end hend, if_neg (by unfold ab_ends; omega)]
        · have hx : X[p + 1]? = some X[p + 1] := List.getElem?_eq_getElem (by omega)
          rw [ab_pt_at hx, if_pos (hno _ hx)])
      exact this
    · unfold wp_X5_readAct_75 wp_X5_readAct_110
      have hao : ab_ao v rm2 = if rm2 = 0 then v else v + 500 := by
        unfold ab_ao
        rw [if_neg (by omega)]
      have fin : ∀ hw : Int, ((hw = 0 ∧ rm2 = 0) ∨ (hw = 1 ∧ rm2 = 1)) → Q 1 ((acts.length : Int) + 1) (q : Int) (uI ho acts.length hw) (uI ke acts.length v) := by
        intro hw hhw
        refine hQ v rm2 q _ _ (Or.inl hv.2) (by omega) (by omega) hq hst (hpt.trans hpt2) (ab_en_app hen ?_)
        rw [hao]
        rcases hhw with ⟨a, b⟩ | ⟨a, b⟩
        · rw [if_pos b]; exact Or.inr (Or.inl ⟨a, rfl, hv⟩)
        · rw [if_neg (by omega)]; exact Or.inr (Or.inr ⟨a, by omega, hv⟩)
      simp only [Int.toNat_natCast]
      refine ⟨by omega, fun _ => ⟨by omega, fun h1 => ⟨by omega, fun h2 => by omega, fun h2 => ⟨by omega, by omega, fin 1 (by omega)⟩⟩, fun h1 => ⟨by omega, by omega, fin 0 (by omega)⟩⟩, fun h1 => absurd (by omega) h1⟩
  unfold wp_X5_readAct
  refine sp_X5_takes hCT hp (by decide) (fun n43 => ⟨by decide, fun q => absurd rfl q, fun _ => ?_⟩) (fun y43 => ⟨by decide, fun _ => ?_, fun q => absurd (by decide) q⟩)
  · refine sp_X5_takes hCT hp (by decide) (fun n45 => ⟨by decide, fun _ => ?_, fun q => absurd rfl q⟩) (fun y45 => ⟨by decide, fun q => absurd q (by decide), fun _ => ?_⟩)
    · unfold wp_X5_readAct_24 wp_X5_readAct_25
      refine ⟨by decide, fun q => absurd rfl q, fun _ => ⟨by decide, fun q => absurd rfl q, fun _ => sp_X5_takes hCT hp (by decide) (fun n46 => ⟨by decide, fun _ => ?_, fun q => absurd rfl q⟩) (fun y46 => ⟨by decide, fun q => absurd q (by decide), fun _ => ?_⟩)⟩⟩
      · unfold wp_X5_readAct_47 wp_X5_readAct_48
        refine ⟨by decide, fun q => absurd rfl q, fun _ => ⟨by decide, fun q => absurd rfl q, fun _ => ⟨by decide, fun q => absurd rfl q, fun _ => h0 p ?_⟩⟩⟩
        by_cases hend : X.length ≤ p
        · rw [ab_pt_end hend, if_neg (by unfold ab_ends; omega)]
        · have hx : X[p]? = some X[p] := List.getElem?_eq_getElem (by omega)
          generalize X[p] = c at hx
          rw [ab_pt_at hx, if_pos]
          rw [hx] at n43 n45 n46
          have a1 : c ≠ 43 := fun e => n43 (by rw [e])
          have a2 : c ≠ 45 := fun e => n45 (by rw [e])
          have a3 : c ≠ 46 := fun e => n46 (by rw [e])
          unfold ab_ro
          rw [if_pos rfl, if_neg a3, if_neg (by omega)]
      · have hlt := (List.getElem?_eq_some_iff.mp y46).1
        have hpt := ab_pt_at (r := 500) (rm := rm) (acts := acts) y46
        have e502 : ab_ro 500 46 = 502 := by decide
        rw [e502, if_neg (by decide), if_pos rfl, if_neg (by decide), if_neg (by decide)] at hpt
        have hao : ab_ao 502 0 = -1 := by decide
        unfold wp_X5_readAct_48 wp_X5_readAct_63 wp_X5_readAct_75 wp_X5_readAct_110
        simp only [Int.toNat_natCast]
        have fin : Q 1 ((acts.length : Int) + 1) ((p + 1 : Nat) : Int) (uI ho acts.length 2) (uI ke acts.length 0) := by
          refine hQ 502 0 (p + 1) _ _ (Or.inr rfl) (by decide) (by omega) (by omega) (fun c hc => ?_) hpt (ab_en_app hen (Or.inl ⟨rfl, hao, by decide⟩))
          by_cases h59 : c = 59
          · exact Or.inl h59
          · right
            unfold ab_ro
            rw [if_neg (by decide), if_neg (by decide), if_neg h59, if_pos (Or.inr (Or.inl rfl))]
        refine ⟨by decide, fun q => absurd rfl q, fun _ => ⟨by decide, fun q => absurd rfl q, fun _ => ⟨by decide, fun _ => ⟨by decide, fun q => absurd q (by decide), fun _ => ⟨by decide, fun _ => ⟨by decide, fun _ => ⟨by decide, fun _ => ⟨by omega, by omega, fin⟩, fun q => absurd trivial q⟩, fun q => absurd trivial q⟩, fun q => absurd (by decide) q⟩⟩, fun q => absurd (by decide) q⟩⟩⟩
    · unfold wp_X5_readAct_25 wp_X5_readAct_47 wp_X5_readAct_48 wp_X5_readAct_63
      refine ⟨by decide, fun q => absurd rfl q, fun _ => ⟨by decide, fun _ => ⟨by decide, fun q => absurd rfl q, fun _ => ⟨by decide, fun _ => ⟨by decide, fun _ => signed 45 1 0 1 y45 (Or.inr ⟨rfl, rfl, rfl, rfl⟩), fun q => absurd rfl q⟩, fun q => absurd (by decide) q⟩⟩, fun q => absurd (by decide) q⟩⟩
  · unfold wp_X5_readAct_24 wp_X5_readAct_25 wp_X5_readAct_47 wp_X5_readAct_48 wp_X5_readAct_63
    refine ⟨by decide, fun _ => ⟨by decide, fun _ => ⟨by decide, fun _ => signed 43 0 1 0 y43 (Or.inl ⟨rfl, rfl, rfl, rfl⟩), fun q => absurd rfl q⟩, fun q => absurd (by decide) q⟩, fun q => absurd (by decide) q⟩
theorem sp_X5_readText (h : ab_CT le tx X) {nto spo : Int} {ho ke : Nat → Int} {Q : Int → Int → Int → (Nat → Int) → (Nat → Int) → Prop}
    (h0 : (ab_ptx X).2 = none → ∀ nto ho ke, Q 0 nto ((ab_ptx X).1 : Int) ho ke) (hQ : ∀ acts, (ab_ptx X).2 = some acts → ∀ ho ke, ab_en ho ke acts → acts.length ≤ 30 → Q 1 (acts.length : Int) (X.length : Int) ho ke) : wp_X5_readText le nto spo tx ho ke Q := by
  have hCT := h
  obtain ⟨g1, g2, g3, g4⟩ := h
  have fail : ∀ (m : Nat) (nto : Int) (q : Nat) (ho ke : Nat → Int), ab_ptx X = (q, none) → lq5 (wp_X5_readText_15 le tx Q) (m + 1) nto (q : Int) ho ke 0 := by
    intro m nto q ho ke hq
    show wp_X5_readText_15 le tx Q (lq5 (wp_X5_readText_15 le tx Q) m) nto (q : Int) ho ke 0
    unfold wp_X5_readText_15 wp_X5_readText_36
    rw [hq] at h0
    exact ⟨by decide, fun _ => ⟨by decide, fun _ => h0 rfl _ _ _, fun q => absurd rfl q⟩, fun q => absurd rfl q⟩
  have succ_ : ∀ (m q : Nat) (r rm2 : Int) (acts : List Int) (ho ke : Nat → Int), X.length - q ≤ m → ab_ends r → (0 ≤ r ∧ r ≤ 502) → q ≤ X.length → 2 * acts.length + 1 ≤ q → ab_stuck X q r → ab_ptx X = ab_pt r rm2 q (X.drop q) acts → ab_en ho ke (acts ++ [ab_ao r rm2]) →
      lq5 (wp_X5_readText_15 le tx Q) (m + 1) ((acts.length : Int) + 1) (q : Int) ho ke 1 := by
    intro m
    induction m with
    | zero =>
      intro q r rm2 acts ho ke hm he hr hqX hl hst hpt hen2
      show wp_X5_readText_15 le tx Q (lq5 (wp_X5_readText_15 le tx Q) 0) ((acts.length : Int) + 1) (q : Int) ho ke 1
      unfold wp_X5_readText_15 wp_X5_readText_36
      have hl2 : (acts ++ [ab_ao r rm2]).length = acts.length + 1 := by simp
      refine ⟨by decide, fun q => absurd q (by decide), fun _ => sp_X5_takes hCT hqX (by decide) (fun n59 => ⟨by decide, fun _ => ⟨by decide, fun q => absurd q (by decide), fun _ => ⟨by omega, by omega, fun h1 => absurd (by omega) h1, fun h1 => ?_⟩⟩, fun q => absurd rfl q⟩) (fun y59 => by have := (List.getElem?_eq_some_iff.mp y59).1; omega)⟩
      have hend := ab_pt_end (r := r) (rm := rm2) (acts := acts) (X := X) (i := q) (by omega)
      rw [if_pos he] at hend
      have := hQ (acts ++ [ab_ao r rm2]) (by rw [hpt, hend]) ho ke hen2 (by omega)
      rw [hl2] at this
      rw [show (q : Int) = (X.length : Int) by omega]
      push_cast at this
      exact this
    | succ m ih =>
      intro q r rm2 acts ho ke hm he hr hqX hl hst hpt hen2
      show wp_X5_readText_15 le tx Q (lq5 (wp_X5_readText_15 le tx Q) (m + 1)) ((acts.length : Int) + 1) (q : Int) ho ke 1
      have fl := fail m
      generalize lq5 (wp_X5_readText_15 le tx Q) (m + 1) = K at ih fl ⊢
      unfold wp_X5_readText_15 wp_X5_readText_36
      have hl2 : (acts ++ [ab_ao r rm2]).length = acts.length + 1 := by simp
      refine ⟨by decide, fun q => absurd q (by decide), fun _ => sp_X5_takes hCT hqX (by decide) (fun n59 => ⟨by decide, fun _ => ⟨by decide, fun q => absurd q (by decide), fun _ => ⟨by omega, by omega, fun h1 => ?_, fun h1 => ?_⟩⟩, fun q => absurd rfl q⟩) (fun y59 => ⟨by decide, fun q => absurd q (by decide), fun _ => ?_⟩)⟩
      · have hx : X[q]? = some X[q] := List.getElem?_eq_getElem (by omega)
        have hro := (hst _ hx).resolve_left (fun e => n59 (by rw [hx, e]))
        have := ab_pt_at (r := r) (rm := rm2) (acts := acts) hx
        rw [if_pos hro] at this
        rw [hpt, this] at h0
        exact h0 rfl _ _ _
      · have hend := ab_pt_end (r := r) (rm := rm2) (acts := acts) (X := X) (i := q) (by omega)
        rw [if_pos he] at hend
        have := hQ (acts ++ [ab_ao r rm2]) (by rw [hpt, hend]) ho ke hen2 (by omega)
        rw [hl2] at this
        rw [show (q : Int) = (X.length : Int) by omega]
        push_cast at this
        exact this
      · have hlt := (List.getElem?_eq_some_iff.mp y59).1
        have h59 := ab_pt_at (r := r) (rm := rm2) (acts := acts) y59
        have hr5 : r ≠ 500 := by unfold ab_ends at he; omega
        have e500 : ab_ro r 59 = 500 := by
          unfold ab_ro
          unfold ab_ends at he
          rw [if_neg (by omega), if_neg (by omega), if_pos rfl]
        have e59 : (if (59 : Int) = 59 ∧ ab_ends r then acts ++ [ab_ao r rm2] else acts) = acts ++ [ab_ao r rm2] := if_pos ⟨rfl, he⟩
        rw [e500, if_neg (by decide), if_neg hr5, e59] at h59
        have hra := sp_X5_readAct (Q := fun r_3 nto_3 spo_3 ho_3 ke_3 => K nto_3 spo_3 ho_3 ke_3 r_3) hCT (p := q + 1) (by omega) (rm := rm2) (acts := acts ++ [ab_ao r rm2]) (by omega) hen2 (fun q2 hq2 => fl _ q2 ho ke (by rw [hpt, h59, hq2])) (fun r3 rm3 q3 ho3 ke3 he3 hr3 hpq3 hq3 hst3 hpt3 hen3 => ?_)
        · rw [hl2] at hra
          push_cast at hra
          push_cast
          exact hra
        · exact ih q3 r3 rm3 (acts ++ [ab_ao r rm2]) ho3 ke3 (by omega) he3 hr3 hq3 (by omega) hst3 (by rw [hpt, h59, hpt3]) hen3
  unfold wp_X5_readText
  refine sp_X5_readAct hCT (p := 0) (Nat.zero_le _) (rm := 0) (acts := []) (by simp) (fun j a hj => by simp at hj) (fun q hq => ⟨_, fail 0 _ q ho ke hq⟩) (fun r rm2 q ho ke he hr hpq hq hst hpt hen => ⟨_, succ_ X.length q r rm2 [] ho ke (by omega) he hr hq (by simp; omega) hst hpt hen⟩)
end PQ5
