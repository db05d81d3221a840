/-! rows that hold lists; a tree in the class: its rows in the order of node() -/
def ab_ar (f : Nat → Int) (l : List Int) : Prop := ∀ (i : Nat) (x : Int), l[i]? = some x → f i = x
def ab_cT (n : Int) (k d m : Nat → Int) (L : List Int) (mk : Int → Int) : Prop := n = (L.length : Int) ∧ ∀ (i : Nat) (x dx : Int), (tk_pr 1 L)[i]? = some (x, dx) → k i = x ∧ d i = dx ∧ m i = mk x
def ab_g (L : List Int) (mk : Int → Int) : Prop := L.Nodup ∧ tk_in (-1) 500 L ∧ L.length ≤ 120 ∧ ∀ x, mk x = 0 ∨ mk x = 1
abbrev ab_s (key : Int) (L : List Int) : List Int := tk_sk key L (-1) 500
theorem ab_drop {α : Type} {l : List α} {i : Nat} {x : α} {S : List α} (h : l.drop i = x :: S) : l[i]? = some x ∧ l.drop (i + 1) = S ∧ i < l.length := by
  have h1 : (l.drop i)[0]? = some x := by rw [h]; rfl
  have h2 : (l.drop i).tail = S := by rw [h]; rfl
  rw [List.getElem?_drop] at h1
  rw [List.tail_drop] at h2
  have h3 : l[i]? = some x := by simpa using h1
  exact ⟨h3, h2, (List.getElem?_eq_some_iff.mp h3).1⟩
theorem ab_drop_nil {α : Type} {l : List α} {i : Nat} (h : l.drop i = []) : l.length ≤ i := List.drop_eq_nil_iff.mp h
section PX3
variable {nT : Int} {kT dT mT : Nat → Int} {L : List Int} {mk : Int → Int}
theorem ab_len (hc : ab_cT nT kT dT mT L mk) (hg : ab_g L mk) : nT = ((tk_pr 1 L).length : Int) ∧ (tk_pr 1 L).length ≤ 120 ∧ (tk_pr 1 L).length = L.length := by
  have h := tk_pr_len L 1 hg.1
  have h1 := hg.2.2.1
  refine ⟨?_, by omega, h⟩
  rw [hc.1, h]
theorem ab_row (hc : ab_cT nT kT dT mT L mk) (hg : ab_g L mk) {i : Nat} {x dx : Int} (h : (tk_pr 1 L)[i]? = some (x, dx)) : kT i = x ∧ dT i = dx ∧ mT i = mk x ∧ x ∈ L ∧ (-1 < x ∧ x < 500) ∧ (1 ≤ dx ∧ dx ≤ 120) ∧ (mk x = 0 ∨ mk x = 1) ∧ dx = ((ab_s x L).length : Int) ∧ i < (tk_pr 1 L).length := by
  obtain ⟨h1, h2, h3⟩ := hc.2 i x dx h
  have hm := List.mem_of_getElem? h
  have hx := tk_pr_mem _ _ _ hm
  have hd := tk_pr_sk L 1 (-1) 500 hg.2.1 _ hm
  have hd1 := tk_pr_dep _ _ _ hm
  have hsub : (ab_s x L).length ≤ L.length := by
    have : ∀ (L : List Int) (lo hi : Int), (tk_sk x L lo hi).length ≤ L.length := by
      intro L
      induction L with
      | nil => intro lo hi; exact Nat.le_refl _
      | cons y ys ih =>
        intro lo hi
        simp only [tk_sk]
        have a := ih lo hi
        have b := ih lo y
        have c := ih y hi
        split
        · split
          · simp
          · split <;> simp only [List.length_cons] <;> omega
        · simp only [List.length_cons]; omega
    exact this L (-1) 500
  have hl := hg.2.2.1
  simp only at hd hd1 hx
  refine ⟨h1, h2, h3, hx, hg.2.1 x hx, ⟨hd1, ?_⟩, hg.2.2.2 x, ?_, (List.getElem?_eq_some_iff.mp h).1⟩
  · rw [hd]
    have : ((tk_sk x L (-1) 500).length : Int) ≤ 120 := by unfold ab_s at hsub; omega
    omega
  · rw [hd]; unfold ab_s; omega
theorem ab_kr (hc : ab_cT nT kT dT mT L mk) (hg : ab_g L mk) {i : Nat} {x : Int} (h : ((tk_pr 1 L).map Prod.fst)[i]? = some x) : ∃ dx, (tk_pr 1 L)[i]? = some (x, dx) := by
  rw [List.getElem?_map] at h
  cases hr : (tk_pr 1 L)[i]? with
  | none => rw [hr] at h; cases h
  | some r =>
    rw [hr] at h
    have : r.1 = x := by simpa using h
    exact ⟨r.2, by rw [← this]⟩
theorem sp_X3_lastVisited (hc : ab_cT nT kT dT mT L mk) (hg : ab_g L mk) {key : Int} (hk : inR key) {Q : Int → Prop} (hQ1 : ab_s key L = [] → Q (-1))
    (hQ2 : ∀ (j : Nat) (x dx : Int), (tk_pr 1 L)[j]? = some (x, dx) → (ab_s key L).getLast? = some x → Q (j : Int)) : wp_X3_lastVisited nT kT key Q := by
  obtain ⟨hn, hn2, hn3⟩ := ab_len hc hg
  have hKl : ((tk_pr 1 L).map Prod.fst).length = (tk_pr 1 L).length := List.length_map _
  have main : ∀ (S : List Int) (i : Nat) (lo hi last : Int), ((tk_pr 1 L).map Prod.fst).drop i = S → i ≤ (tk_pr 1 L).length → inR lo → inR hi →
      (tk_sk key S lo hi = [] → Q last) → (∀ (j : Nat) (x : Int), ((tk_pr 1 L).map Prod.fst)[j]? = some x → i ≤ j → (tk_sk key S lo hi).getLast? = some x → Q (j : Int)) → lq4 (wp_X3_lastVisited_12 nT kT key Q) (S.length + 1) lo hi last (i : Int) := by
    intro S
    induction S with
    | nil =>
      intro i lo hi last hS hi9 h1 h2 q1 q2
      have := ab_drop_nil hS
      show wp_X3_lastVisited_12 nT kT key Q (lq4 (wp_X3_lastVisited_12 nT kT key Q) 0) lo hi last (i : Int)
      unfold wp_X3_lastVisited_12
      exact ⟨by omega, by omega, fun _ => q1 rfl, fun h => absurd (by omega) h⟩
    | cons x S ih =>
      intro i lo hi last hS hi9 h1 h2 q1 q2
      obtain ⟨hx, hS1, hlt⟩ := ab_drop hS
      obtain ⟨dx, hr⟩ := ab_kr hc hg hx
      obtain ⟨e1, e2, e3, e4, e5, e6, e7, e8, e9⟩ := ab_row hc hg hr
      show wp_X3_lastVisited_12 nT kT key Q (lq4 (wp_X3_lastVisited_12 nT kT key Q) (S.length + 1)) lo hi last (i : Int)
      unfold wp_X3_lastVisited_12
      simp only [Int.toNat_natCast, e1]
      have nx : ∀ (lo hi last : Int), inR lo → inR hi → (tk_sk key S lo hi = [] → Q last) → (∀ (j : Nat) (x : Int), ((tk_pr 1 L).map Prod.fst)[j]? = some x → i + 1 ≤ j → (tk_sk key S lo hi).getLast? = some x → Q (j : Int)) → lq4 (wp_X3_lastVisited_12 nT kT key Q) (S.length + 1) lo hi last ((i : Int) + 1) := by
        intro lo hi last a b c d
        have := ih (i + 1) lo hi last hS1 (by omega) a b c d
        push_cast at this
        exact this
      simp only [tk_sk] at q1 q2
      refine ⟨by omega, by omega, fun h => absurd h (by omega), fun _ => ⟨by omega, by omega, by omega, fun h => ?_, fun h => ⟨by omega, by omega, fun h4 => ?_, fun h4 => ⟨by omega, by omega, fun h5 => ⟨by omega, by omega, fun h6 => ?_, fun h6 => ?_⟩, fun h5 => ?_⟩⟩⟩⟩
      · rw [if_neg (by omega)] at q1 q2
        exact nx lo hi last h1 h2 q1 (fun j y hy hj => q2 j y hy (by omega))
      · rw [if_neg (by omega)] at q1 q2
        exact nx lo hi last h1 h2 q1 (fun j y hy hj => q2 j y hy (by omega))
      · rw [if_pos (by omega), if_neg (by omega), if_neg (by omega)] at q1 q2
        refine nx x hi (i : Int) (by omega) h2 (fun e => q2 i x hx (Nat.le_refl _) (by rw [e]; rfl)) (fun j y hy hj hl => q2 j y hy (by omega) ?_)
        rw [List.getLast?_cons, hl]
        rfl
      · rw [if_pos (by omega), if_neg (by omega), if_pos (by omega)] at q1 q2
        refine nx lo x (i : Int) h1 (by omega) (fun e => q2 i x hx (Nat.le_refl _) (by rw [e]; rfl)) (fun j y hy hj hl => q2 j y hy (by omega) ?_)
        rw [List.getLast?_cons, hl]
        rfl
      · rw [if_pos (by omega), if_pos (by omega)] at q1 q2
        exact q2 i x hx (Nat.le_refl _) rfl
  unfold wp_X3_lastVisited
  have eS : tk_sk key ((tk_pr 1 L).map Prod.fst) (-1) 500 = ab_s key L := tk_sk_pr L 1 (-1) 500 hg.2.1
  refine ⟨_, main ((tk_pr 1 L).map Prod.fst) 0 (-1) 500 (-1) rfl (Nat.zero_le _) (by decide) (by decide) (fun h => hQ1 (by rw [← eS]; exact h)) (fun j x hx _ hl => ?_)⟩
  obtain ⟨dx, hr⟩ := ab_kr hc hg hx
  exact hQ2 j x dx hr (by rw [← eS]; exact hl)
theorem ab_found (hg : ab_g L mk) {key : Int} (hk : 0 ≤ key ∧ key < 500) : key ∈ L ↔ (ab_s key L).getLast? = some key := by
  constructor
  · exact fun h => tk_sk_found L (-1) 500 h (by omega) (by omega)
  · exact fun h => (tk_sk_mem _ _ _ _ (List.mem_of_getLast? h)).1
theorem sp_X3_nodeWith (hc : ab_cT nT kT dT mT L mk) (hg : ab_g L mk) {key : Int} (hk : 0 ≤ key ∧ key < 500) {Q : Int → Prop} (hQ1 : key ∉ L → Q (-1))
    (hQ2 : ∀ (j : Nat) (dx : Int), (tk_pr 1 L)[j]? = some (key, dx) → key ∈ L → Q (j : Int)) : wp_X3_nodeWith nT kT key Q := by
  unfold wp_X3_nodeWith
  refine sp_X3_lastVisited hc hg (by omega) (fun e => ⟨by decide, fun _ => hQ1 (fun hm => ?_), fun h => absurd rfl h⟩) (fun j x dx hr hl => ?_)
  · have := (ab_found hg hk).mp hm
    rw [e] at this
    cases this
  · obtain ⟨e1, e2, e3, e4, e5, e6, e7, e8, e9⟩ := ab_row hc hg hr
    obtain ⟨hn, hn2, hn3⟩ := ab_len hc hg
    simp only [Int.toNat_natCast, e1]
    refine ⟨by omega, fun h => absurd h (by omega), fun _ => ⟨by omega, by omega, by omega, fun h => hQ1 (fun hm => ?_), fun h => ?_⟩⟩
    · have := (ab_found hg hk).mp hm
      rw [hl] at this
      exact h (Option.some.inj this)
    · have hx : x = key := by omega
      subst hx
      exact hQ2 j dx hr e4
theorem sp_X3_hasNode (hc : ab_cT nT kT dT mT L mk) (hg : ab_g L mk) {key : Int} (hk : 0 ≤ key ∧ key < 500) {Q : Int → Prop} (hQ1 : key ∉ L → Q 0) (hQ2 : key ∈ L → Q 1) : wp_X3_hasNode nT kT key Q := by
  unfold wp_X3_hasNode
  refine sp_X3_nodeWith hc hg hk (fun h => ⟨by decide, fun _ => hQ1 h, fun q => absurd rfl q⟩) (fun j dx hr hm => ?_)
  have := (ab_row hc hg hr).2.2.2.2.2.2.2.2
  have := (ab_len hc hg).2.1
  exact ⟨by omega, fun q => absurd q (by omega), fun _ => hQ2 hm⟩
theorem sp_X3_hasPresent (hc : ab_cT nT kT dT mT L mk) (hg : ab_g L mk) {key : Int} (hk : 0 ≤ key ∧ key < 500) {Q : Int → Prop} (hQ1 : ¬ (key ∈ L ∧ mk key = 0) → Q 0) (hQ2 : key ∈ L ∧ mk key = 0 → Q 1) : wp_X3_hasPresent nT kT mT key Q := by
  unfold wp_X3_hasPresent
  refine sp_X3_nodeWith hc hg hk (fun h => ⟨by decide, fun _ => hQ1 (fun q => h q.1), fun q => absurd rfl q⟩) (fun j dx hr hm => ?_)
  obtain ⟨e1, e2, e3, e4, e5, e6, e7, e8, e9⟩ := ab_row hc hg hr
  have := (ab_len hc hg).2.1
  simp only [Int.toNat_natCast, e3]
  exact ⟨by omega, fun q => absurd q (by omega), fun _ => ⟨by omega, by omega, fun h => hQ1 (fun q => h q.2), fun h => hQ2 ⟨hm, by omega⟩⟩⟩
theorem ab_lastlen (hc : ab_cT nT kT dT mT L mk) (hg : ab_g L mk) {key : Int} {j : Nat} {x dx : Int} (hr : (tk_pr 1 L)[j]? = some (x, dx)) (hl : (ab_s key L).getLast? = some x) : ab_s x L = ab_s key L ∧ dx = ((ab_s key L).length : Int) := by
  have h := tk_sk_self L (-1) 500 x hl
  obtain ⟨e1, e2, e3, e4, e5, e6, e7, e8, e9⟩ := ab_row hc hg hr
  refine ⟨h, ?_⟩
  rw [e8]
  unfold ab_s
  rw [h]
theorem sp_X3_visitsFor (hc : ab_cT nT kT dT mT L mk) (hg : ab_g L mk) {act : Int} (hk : 0 ≤ act ∧ act < 1000) {Q : Int → Prop} (hQ : Q ((ab_s (act % 500) L).length : Int)) : wp_X3_visitsFor nT kT dT act Q := by
  unfold wp_X3_visitsFor
  refine ⟨by omega, sp_X3_lastVisited hc hg (by omega) (fun e => ?_) (fun j x dx hr hl => ?_)⟩
  · rw [e] at hQ
    exact ⟨by decide, fun h => absurd rfl h, fun _ => hQ⟩
  · obtain ⟨e1, e2, e3, e4, e5, e6, e7, e8, e9⟩ := ab_row hc hg hr
    have := (ab_len hc hg).2.1
    have h9 := (ab_lastlen hc hg hr hl).2
    simp only [Int.toNat_natCast, e2]
    exact ⟨by omega, fun _ => ⟨by omega, by rw [h9]; exact hQ⟩, fun h => absurd (by omega) h⟩
theorem sp_X3_visitedKey (hc : ab_cT nT kT dT mT L mk) (hg : ab_g L mk) {key ix : Int} (hk : 0 ≤ key ∧ key < 500) (hi : 0 ≤ ix ∧ ix ≤ 2147483647) {Q : Int → Prop} (hQ : Q (((ab_s key L)[ix.toNat]?).getD (-1))) : wp_X3_visitedKey nT kT dT key ix Q := by
  unfold wp_X3_visitedKey
  refine sp_X3_lastVisited hc hg (by omega) (fun e => ?_) (fun j x dx hr hl => ?_)
  · rw [e] at hQ
    exact ⟨by decide, fun _ => hQ, fun h => absurd rfl h⟩
  · obtain ⟨e1, e2, e3, e4, e5, e6, e7, e8, e9⟩ := ab_row hc hg hr
    obtain ⟨hn, hn2, hn3⟩ := ab_len hc hg
    obtain ⟨h8, h9⟩ := ab_lastlen hc hg hr hl
    simp only [Int.toNat_natCast, e2]
    refine ⟨by omega, fun h => absurd h (by omega), fun _ => ⟨by omega, by omega, by omega, fun h => ?_, fun h => ?_⟩⟩
    · -- the ancestors
      have hlt : ix.toNat < (ab_s key L).length := by omega
      obtain ⟨v, hv⟩ : ∃ v, (ab_s key L)[ix.toNat]? = some v := ⟨_, List.getElem?_eq_getElem hlt⟩
      have hanc := tk_anc L 1 (-1) 500 hg.2.1 hg.1 j x dx hr ix.toNat v (by rw [show tk_sk x L (-1) 500 = ab_s key L from h8]; exact hv)
      rw [hv] at hQ
      have hix : (1 : Int) + (ix.toNat : Int) = ix + 1 := by omega
      rw [hix] at hanc
      have main : ∀ (i : Nat), i < (tk_pr 1 L).length → (((tk_pr 1 L).take (i + 1)).filter (fun r => decide (r.2 = ix + 1))).getLast? = some (v, ix + 1) → lq1 (wp_X3_visitedKey_26 nT kT dT ix Q) (i + 1) (i : Int) := by
        intro i
        induction i with
        | zero =>
          intro hi9 hf
          show wp_X3_visitedKey_26 nT kT dT ix Q (lq1 (wp_X3_visitedKey_26 nT kT dT ix Q) 0) ((0 : Nat) : Int)
          obtain ⟨r0, hr0⟩ : ∃ r, (tk_pr 1 L)[0]? = some r := ⟨_, List.getElem?_eq_getElem hi9⟩
          obtain ⟨x0, d0⟩ := r0
          obtain ⟨f1, f2, f3, f4, f5, f6, f7, f8, f9⟩ := ab_row hc hg hr0
          have et : (tk_pr 1 L).take (0 + 1) = [(x0, d0)] := by
            cases hp : tk_pr 1 L with
            | nil => rw [hp] at hr0; cases hr0
            | cons a as =>
              rw [hp] at hr0
              have : a = (x0, d0) := by simpa using hr0
              rw [this]
              rfl
          rw [et] at hf
          unfold wp_X3_visitedKey_26
          simp only [Int.toNat_natCast, f1, f2]
          by_cases hd : d0 = ix + 1
          · have hx : x0 = v := by simpa [hd] using hf
            refine ⟨by omega, fun h => absurd h (by omega), fun _ => ⟨by omega, by omega, by omega, fun h => absurd hd h, fun _ => ⟨by omega, ?_⟩⟩⟩
            rw [hx]
            exact hQ
          · simp [hd] at hf
        | succ i ih =>
          intro hi9 hf
          show wp_X3_visitedKey_26 nT kT dT ix Q (lq1 (wp_X3_visitedKey_26 nT kT dT ix Q) (i + 1)) ((i + 1 : Nat) : Int)
          obtain ⟨r0, hr0⟩ : ∃ r, (tk_pr 1 L)[i + 1]? = some r := ⟨_, List.getElem?_eq_getElem hi9⟩
          obtain ⟨x0, d0⟩ := r0
          obtain ⟨f1, f2, f3, f4, f5, f6, f7, f8, f9⟩ := ab_row hc hg hr0
          rw [List.take_succ, hr0, List.filter_append, List.getLast?_append] at hf
          unfold wp_X3_visitedKey_26
          simp only [Int.toNat_natCast, f1, f2]
          refine ⟨by omega, fun h => absurd h (by omega), fun _ => ⟨by omega, by omega, by omega, fun hd => ?_, fun hd => ⟨by omega, ?_⟩⟩⟩
          · have := ih (by omega) (by simpa [hd] using hf)
            rw [show ((i + 1 : Nat) : Int) + (-1) = (i : Int) by omega]
            exact this
          · have hd2 : d0 = ix + 1 := by omega
            have hx : x0 = v := by simpa [hd2] using hf
            rw [hx]
            exact hQ
      exact ⟨_, main j e9 hanc⟩
    · have : (ab_s key L)[ix.toNat]? = none := List.getElem?_eq_none (by omega)
      rw [this] at hQ
      exact hQ
theorem sp_X3_subtreeEnd (hc : ab_cT nT kT dT mT L mk) (hg : ab_g L mk) {j : Nat} {x dx : Int} (hr : (tk_pr 1 L)[j]? = some (x, dx)) {Q : Int → Prop} (hQ : Q ((j + 1 + (tk_tw dx ((tk_pr 1 L).drop (j + 1))).length : Nat) : Int)) : wp_X3_subtreeEnd nT dT (j : Int) Q := by
  obtain ⟨hn, hn2, hn3⟩ := ab_len hc hg
  obtain ⟨e1, e2, e3, e4, e5, e6, e7, e8, e9⟩ := ab_row hc hg hr
  have main : ∀ (S : List (Int × Int)) (i : Nat), (tk_pr 1 L).drop i = S → i ≤ (tk_pr 1 L).length → Q ((i + (tk_tw dx S).length : Nat) : Int) → lq1 (wp_X3_subtreeEnd_4 nT dT (j : Int) Q) (S.length + 1) (i : Int) := by
    intro S
    induction S with
    | nil =>
      intro i hS hi9 q
      have := ab_drop_nil hS
      show wp_X3_subtreeEnd_4 nT dT (j : Int) Q (lq1 (wp_X3_subtreeEnd_4 nT dT (j : Int) Q) 0) (i : Int)
      unfold wp_X3_subtreeEnd_4
      exact ⟨by omega, by omega, fun _ => q, fun h => absurd (by omega) h⟩
    | cons r S ih =>
      intro i hS hi9 q
      obtain ⟨hx, hS1, hlt⟩ := ab_drop hS
      obtain ⟨y, dy⟩ := r
      obtain ⟨f1, f2, f3, f4, f5, f6, f7, f8, f9⟩ := ab_row hc hg hx
      show wp_X3_subtreeEnd_4 nT dT (j : Int) Q (lq1 (wp_X3_subtreeEnd_4 nT dT (j : Int) Q) (S.length + 1)) (i : Int)
      generalize lq1 (wp_X3_subtreeEnd_4 nT dT (j : Int) Q) (S.length + 1) = K at ih ⊢
      unfold wp_X3_subtreeEnd_4
      simp only [Int.toNat_natCast, f2, e2]
      refine ⟨by omega, by omega, fun h => absurd h (by omega), fun _ => ⟨by omega, by omega, by omega, by omega, fun h => ?_, fun h => ?_⟩⟩
      · unfold tk_tw at q
        rw [List.takeWhile_cons_of_neg (by simp; omega)] at q
        exact q
      · have := ih (i + 1) hS1 (by omega) (by
          unfold tk_tw at q ⊢
          rw [List.takeWhile_cons_of_pos (by simp; omega), List.length_cons] at q
          rw [show i + 1 + (S.takeWhile (fun r => decide (dx < r.2))).length = i + ((S.takeWhile (fun r => decide (dx < r.2))).length + 1) by omega]
          exact q)
        push_cast at this
        exact this
  unfold wp_X3_subtreeEnd
  have := main ((tk_pr 1 L).drop (j + 1)) (j + 1) rfl (by omega) hQ
  push_cast at this
  exact ⟨_, this⟩
end PX3
