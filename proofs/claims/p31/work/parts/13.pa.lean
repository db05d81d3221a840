/-! lists of keys in the order in which they came, read as search trees -/
def tk_sk (key : Int) : List Int → Int → Int → List Int
  | [], _, _ => []
  | x :: xs, lo, hi => if lo < x ∧ x < hi then (if x = key then [x] else if key < x then x :: tk_sk key xs lo x else x :: tk_sk key xs x hi) else tk_sk key xs lo hi
abbrev tk_L (x : Int) (xs : List Int) : List Int := xs.filter (fun y => decide (y < x))
abbrev tk_R (x : Int) (xs : List Int) : List Int := xs.filter (fun y => decide (x < y))
def tk_pf : Nat → Int → List Int → List (Int × Int)
  | 0, _, _ => []
  | _ + 1, _, [] => []
  | f + 1, d, x :: xs => (x, d) :: (tk_pf f (d + 1) (tk_L x xs) ++ tk_pf f (d + 1) (tk_R x xs))
/-- the nodes in the order of node(), with their depths -/
def tk_pr (d : Int) (L : List Int) : List (Int × Int) := tk_pf L.length d L
theorem tk_fuel : ∀ (n f1 f2 : Nat) (d : Int) (L : List Int), L.length ≤ n → n ≤ f1 → n ≤ f2 → tk_pf f1 d L = tk_pf f2 d L := by
  intro n
  induction n with
  | zero =>
    intro f1 f2 d L h _ _
    have e : L = [] := List.length_eq_zero_iff.mp (by omega)
    subst e
    cases f1 <;> cases f2 <;> rfl
  | succ n ih =>
    intro f1 f2 d L h h1 h2
    obtain ⟨g1, rfl⟩ : ∃ g, f1 = g + 1 := ⟨f1 - 1, by omega⟩
    obtain ⟨g2, rfl⟩ : ∃ g, f2 = g + 1 := ⟨f2 - 1, by omega⟩
    cases L with
    | nil => rfl
    | cons x xs =>
      have hl := List.length_filter_le (fun y => decide (y < x)) xs
      have hr := List.length_filter_le (fun y => decide (x < y)) xs
      simp only [List.length_cons] at h
      show (x, d) :: (tk_pf g1 (d + 1) (tk_L x xs) ++ tk_pf g1 (d + 1) (tk_R x xs)) = (x, d) :: (tk_pf g2 (d + 1) (tk_L x xs) ++ tk_pf g2 (d + 1) (tk_R x xs))
      rw [ih g1 g2 (d + 1) (tk_L x xs) (by unfold tk_L; omega) (by omega) (by omega), ih g1 g2 (d + 1) (tk_R x xs) (by unfold tk_R; omega) (by omega) (by omega)]
theorem tk_pr_nil (d : Int) : tk_pr d [] = [] := rfl
theorem tk_pr_cons (d x : Int) (xs : List Int) : tk_pr d (x :: xs) = (x, d) :: (tk_pr (d + 1) (tk_L x xs) ++ tk_pr (d + 1) (tk_R x xs)) := by
  have hl := List.length_filter_le (fun y => decide (y < x)) xs
  have hr := List.length_filter_le (fun y => decide (x < y)) xs
  show (x, d) :: (tk_pf xs.length (d + 1) (tk_L x xs) ++ tk_pf xs.length (d + 1) (tk_R x xs)) = _
  rw [tk_fuel (tk_L x xs).length xs.length (tk_L x xs).length (d + 1) (tk_L x xs) (Nat.le_refl _) hl (Nat.le_refl _), tk_fuel (tk_R x xs).length xs.length (tk_R x xs).length (d + 1) (tk_R x xs) (Nat.le_refl _) hr (Nat.le_refl _)]
  rfl
theorem tk_ind {P : List Int → Prop} (h0 : P []) (h1 : ∀ x xs, P (tk_L x xs) → P (tk_R x xs) → P (x :: xs)) (L : List Int) : P L := by
  suffices h : ∀ (n : Nat) (L : List Int), L.length ≤ n → P L from h L.length L (Nat.le_refl _)
  intro n
  induction n with
  | zero =>
    intro L h
    have e : L = [] := List.length_eq_zero_iff.mp (by omega)
    subst e
    exact h0
  | succ n ih =>
    intro L h
    cases L with
    | nil => exact h0
    | cons x xs =>
      have hl := List.length_filter_le (fun y => decide (y < x)) xs
      have hr := List.length_filter_le (fun y => decide (x < y)) xs
      simp only [List.length_cons] at h
      exact h1 x xs (ih _ (by unfold tk_L; omega)) (ih _ (by unfold tk_R; omega))
def tk_in (lo hi : Int) (L : List Int) : Prop := ∀ y ∈ L, lo < y ∧ y < hi
theorem tk_mL {x y : Int} {xs : List Int} : y ∈ tk_L x xs ↔ y ∈ xs ∧ y < x := by simp [tk_L]
theorem tk_mR {x y : Int} {xs : List Int} : y ∈ tk_R x xs ↔ y ∈ xs ∧ x < y := by simp [tk_R]
theorem tk_in.hd {lo hi x : Int} {xs : List Int} (h : tk_in lo hi (x :: xs)) : lo < x ∧ x < hi := h x List.mem_cons_self
theorem tk_in.tl {lo hi x : Int} {xs : List Int} (h : tk_in lo hi (x :: xs)) : tk_in lo hi xs := fun y hy => h y (List.mem_cons_of_mem _ hy)
theorem tk_in.L {lo hi x : Int} {xs : List Int} (h : tk_in lo hi (x :: xs)) : tk_in lo x (tk_L x xs) := fun y hy => ⟨(h.tl y (tk_mL.mp hy).1).1, (tk_mL.mp hy).2⟩
theorem tk_in.R {lo hi x : Int} {xs : List Int} (h : tk_in lo hi (x :: xs)) : tk_in x hi (tk_R x xs) := fun y hy => ⟨(tk_mR.mp hy).2, (h.tl y (tk_mR.mp hy).1).2⟩
theorem tk_nL {x : Int} {xs : List Int} (h : (x :: xs).Nodup) : (tk_L x xs).Nodup := List.Nodup.sublist List.filter_sublist (List.nodup_cons.mp h).2
theorem tk_nR {x : Int} {xs : List Int} (h : (x :: xs).Nodup) : (tk_R x xs).Nodup := List.Nodup.sublist List.filter_sublist (List.nodup_cons.mp h).2
theorem tk_split {x : Int} {xs : List Int} (h : (x :: xs).Nodup) : (tk_L x xs ++ tk_R x xs).Perm xs := by
  have e : tk_R x xs = xs.filter (fun y => !decide (y < x)) := by
    refine List.filter_congr (fun y hy => ?_)
    have hne : y ≠ x := fun e => (List.nodup_cons.mp h).1 (e ▸ hy)
    by_cases h1 : y < x
    · simp [h1]; omega
    · simp [h1]; omega
  rw [e]
  exact List.filter_append_perm _ _
theorem tk_pr_mem : ∀ (L : List Int) (d : Int) (r : Int × Int), r ∈ tk_pr d L → r.1 ∈ L := by
  intro L
  refine tk_ind (P := fun L => ∀ (d : Int) (r : Int × Int), r ∈ tk_pr d L → r.1 ∈ L) ?_ ?_ L
  · intro d r h
    exact absurd h List.not_mem_nil
  · intro x xs hL hR d r h
    rw [tk_pr_cons] at h
    rcases List.mem_cons.mp h with rfl | h
    · exact List.mem_cons_self
    · rcases List.mem_append.mp h with h | h
      · exact List.mem_cons_of_mem _ (tk_mL.mp (hL _ _ h)).1
      · exact List.mem_cons_of_mem _ (tk_mR.mp (hR _ _ h)).1
theorem tk_pr_dep : ∀ (L : List Int) (d : Int) (r : Int × Int), r ∈ tk_pr d L → d ≤ r.2 := by
  intro L
  refine tk_ind (P := fun L => ∀ (d : Int) (r : Int × Int), r ∈ tk_pr d L → d ≤ r.2) ?_ ?_ L
  · intro d r h
    exact absurd h List.not_mem_nil
  · intro x xs hL hR d r h
    rw [tk_pr_cons] at h
    rcases List.mem_cons.mp h with rfl | h
    · exact Int.le_refl _
    · rcases List.mem_append.mp h with h | h
      · have := hL _ _ h; omega
      · have := hR _ _ h; omega
theorem tk_pr_perm : ∀ (L : List Int) (d : Int), L.Nodup → ((tk_pr d L).map Prod.fst).Perm L := by
  intro L
  refine tk_ind (P := fun L => ∀ (d : Int), L.Nodup → ((tk_pr d L).map Prod.fst).Perm L) ?_ ?_ L
  · intro d _
    exact List.Perm.refl _
  · intro x xs hL hR d hn
    rw [tk_pr_cons, List.map_cons, List.map_append]
    exact List.Perm.cons x (((hL (d + 1) (tk_nL hn)).append (hR (d + 1) (tk_nR hn))).trans (tk_split hn))
theorem tk_pr_len (L : List Int) (d : Int) (hn : L.Nodup) : (tk_pr d L).length = L.length := by
  have := (tk_pr_perm L d hn).length_eq
  rwa [List.length_map] at this
/-! searches -/
theorem tk_skp {p : Int → Bool} {key : Int} : ∀ (L : List Int) (lo hi : Int), (∀ y ∈ L, lo < y → y < hi → p y = true) → tk_sk key (L.filter p) lo hi = tk_sk key L lo hi := by
  intro L
  induction L with
  | nil => intro lo hi _; rfl
  | cons x xs ih =>
    intro lo hi h
    have ht : ∀ y ∈ xs, lo < y → y < hi → p y = true := fun y hy => h y (List.mem_cons_of_mem _ hy)
    by_cases hx : lo < x ∧ x < hi
    · rw [List.filter_cons_of_pos (h x List.mem_cons_self hx.1 hx.2)]
      simp only [tk_sk, if_pos hx]
      rw [ih lo x (fun y hy h1 h2 => ht y hy h1 (by omega)), ih x hi (fun y hy h1 h2 => ht y hy (by omega) h2)]
    · by_cases hp : p x = true
      · rw [List.filter_cons_of_pos hp]
        simp only [tk_sk, if_neg hx]
        exact ih lo hi ht
      · rw [List.filter_cons_of_neg hp]
        simp only [tk_sk, if_neg hx]
        exact ih lo hi ht
theorem tk_sk_app {key : Int} {B : List Int} : ∀ (A : List Int) (lo hi : Int), (∀ y ∈ B, ¬ (lo < y ∧ y < hi)) → tk_sk key (A ++ B) lo hi = tk_sk key A lo hi := by
  intro A
  induction A with
  | nil =>
    intro lo hi h
    rw [List.nil_append]
    induction B with
    | nil => rfl
    | cons x xs ih =>
      simp only [tk_sk, if_neg (h x List.mem_cons_self)]
      exact ih (fun y hy => h y (List.mem_cons_of_mem _ hy))
  | cons x xs ih =>
    intro lo hi h
    rw [List.cons_append]
    simp only [tk_sk]
    rw [ih lo hi h]
    by_cases hx : lo < x ∧ x < hi
    · rw [if_pos hx, if_pos hx, ih lo x (fun y hy h1 => h y hy (by omega)), ih x hi (fun y hy h1 => h y hy (by omega))]
    · rw [if_neg hx, if_neg hx]
theorem tk_sk_pre {key : Int} {B : List Int} : ∀ (A : List Int) (lo hi : Int), (∀ y ∈ A, ¬ (lo < y ∧ y < hi)) → tk_sk key (A ++ B) lo hi = tk_sk key B lo hi := by
  intro A
  induction A with
  | nil => intro lo hi _; rfl
  | cons x xs ih =>
    intro lo hi h
    rw [List.cons_append]
    simp only [tk_sk, if_neg (h x List.mem_cons_self)]
    exact ih lo hi (fun y hy => h y (List.mem_cons_of_mem _ hy))
theorem tk_sk_lt {key x lo hi : Int} {xs : List Int} (hx : lo < x ∧ x < hi) (hk : key < x) : tk_sk key (x :: xs) lo hi = x :: tk_sk key (tk_L x xs) lo x := by
  simp only [tk_sk, if_pos hx]
  rw [if_neg (by omega), if_pos hk, tk_skp xs lo x (fun y _ _ h => by simp [h])]
theorem tk_sk_gt {key x lo hi : Int} {xs : List Int} (hx : lo < x ∧ x < hi) (hk : x < key) : tk_sk key (x :: xs) lo hi = x :: tk_sk key (tk_R x xs) x hi := by
  simp only [tk_sk, if_pos hx]
  rw [if_neg (by omega), if_neg (by omega), tk_skp xs x hi (fun y _ h _ => by simp [h])]
theorem tk_sk_eq {x lo hi : Int} {xs : List Int} (hx : lo < x ∧ x < hi) : tk_sk x (x :: xs) lo hi = [x] := by
  unfold tk_sk
  rw [if_pos hx, if_pos rfl]
theorem tk_sk_mem {key : Int} : ∀ (L : List Int) (lo hi y : Int), y ∈ tk_sk key L lo hi → y ∈ L ∧ lo < y ∧ y < hi := by
  intro L
  induction L with
  | nil => intro lo hi y h; exact absurd h List.not_mem_nil
  | cons x xs ih =>
    intro lo hi y h
    simp only [tk_sk] at h
    by_cases hx : lo < x ∧ x < hi
    · rw [if_pos hx] at h
      by_cases he : x = key
      · rw [if_pos he] at h
        have := List.mem_singleton.mp h
        subst this
        exact ⟨List.mem_cons_self, hx⟩
      · rw [if_neg he] at h
        by_cases hk : key < x
        · rw [if_pos hk] at h
          rcases List.mem_cons.mp h with rfl | h
          · exact ⟨List.mem_cons_self, hx⟩
          · have := ih lo x y h
            exact ⟨List.mem_cons_of_mem _ this.1, by omega⟩
        · rw [if_neg hk] at h
          rcases List.mem_cons.mp h with rfl | h
          · exact ⟨List.mem_cons_self, hx⟩
          · have := ih x hi y h
            exact ⟨List.mem_cons_of_mem _ this.1, by omega⟩
    · rw [if_neg hx] at h
      have := ih lo hi y h
      exact ⟨List.mem_cons_of_mem _ this.1, this.2⟩
theorem tk_sk_nil {key : Int} {L : List Int} {lo hi : Int} (h : tk_in lo hi L) (e : tk_sk key L lo hi = []) : L = [] := by
  cases L with
  | nil => rfl
  | cons x xs =>
    simp only [tk_sk, if_pos h.hd] at e
    split at e
    · cases e
    · split at e <;> cases e
theorem tk_sk_self {key : Int} : ∀ (L : List Int) (lo hi y : Int), (tk_sk key L lo hi).getLast? = some y → tk_sk y L lo hi = tk_sk key L lo hi := by
  intro L
  induction L with
  | nil => intro lo hi y h; cases h
  | cons x xs ih =>
    intro lo hi y h
    by_cases hx : lo < x ∧ x < hi
    · simp only [tk_sk, if_pos hx] at h ⊢
      by_cases he : x = key
      · rw [if_pos he] at h ⊢
        have : x = y := by simpa using h
        rw [if_pos this]
      · rw [if_neg he] at h ⊢
        by_cases hk : key < x
        · rw [if_pos hk] at h ⊢
          rw [List.getLast?_cons] at h
          cases hs : (tk_sk key xs lo x).getLast? with
          | none =>
            rw [hs] at h
            have e0 : tk_sk key xs lo x = [] := List.getLast?_eq_none_iff.mp hs
            have : x = y := by simpa using h
            rw [if_pos this, e0]
          | some z =>
            rw [hs] at h
            have : z = y := by simpa using h
            subst this
            have hz := (tk_sk_mem xs lo x z (List.mem_of_getLast? hs)).2
            rw [if_neg (by omega), if_pos hz.2, ih lo x z hs]
        · rw [if_neg hk] at h ⊢
          rw [List.getLast?_cons] at h
          cases hs : (tk_sk key xs x hi).getLast? with
          | none =>
            rw [hs] at h
            have e0 : tk_sk key xs x hi = [] := List.getLast?_eq_none_iff.mp hs
            have : x = y := by simpa using h
            rw [if_pos this, e0]
          | some z =>
            rw [hs] at h
            have : z = y := by simpa using h
            subst this
            have hz := (tk_sk_mem xs x hi z (List.mem_of_getLast? hs)).2
            rw [if_neg (by omega), if_neg (by omega), ih x hi z hs]
    · simp only [tk_sk, if_neg hx] at h ⊢
      exact ih lo hi y h
theorem tk_sk_found {key : Int} : ∀ (L : List Int) (lo hi : Int), key ∈ L → lo < key → key < hi → (tk_sk key L lo hi).getLast? = some key := by
  intro L
  induction L with
  | nil => intro lo hi h; exact absurd h List.not_mem_nil
  | cons x xs ih =>
    intro lo hi h h1 h2
    by_cases he : x = key
    · subst he
      rw [tk_sk_eq ⟨h1, h2⟩]
      rfl
    · have hm : key ∈ xs := by
        rcases List.mem_cons.mp h with e | h
        · exact absurd e.symm he
        · exact h
      simp only [tk_sk]
      by_cases hx : lo < x ∧ x < hi
      · rw [if_pos hx, if_neg he]
        by_cases hk : key < x
        · rw [if_pos hk, List.getLast?_cons, ih lo x hm h1 hk]
          rfl
        · rw [if_neg hk, List.getLast?_cons, ih x hi hm (by omega) h2]
          rfl
      · rw [if_neg hx]
        exact ih lo hi hm h1 h2
/-- the order of the nodes doesn't change a search -/
theorem tk_sk_pr {key : Int} : ∀ (L : List Int) (d lo hi : Int), tk_in lo hi L → tk_sk key ((tk_pr d L).map Prod.fst) lo hi = tk_sk key L lo hi := by
  intro L
  refine tk_ind (P := fun L => ∀ (d lo hi : Int), tk_in lo hi L → tk_sk key ((tk_pr d L).map Prod.fst) lo hi = tk_sk key L lo hi) ?_ ?_ L
  · intro d lo hi _
    rfl
  · intro x xs hL hR d lo hi h
    have hx := h.hd
    have gL : ∀ y ∈ (tk_pr (d + 1) (tk_L x xs)).map Prod.fst, y < x := by
      intro y hy
      obtain ⟨r, hr, rfl⟩ := List.mem_map.mp hy
      exact (tk_mL.mp (tk_pr_mem _ _ _ hr)).2
    have gR : ∀ y ∈ (tk_pr (d + 1) (tk_R x xs)).map Prod.fst, x < y := by
      intro y hy
      obtain ⟨r, hr, rfl⟩ := List.mem_map.mp hy
      exact (tk_mR.mp (tk_pr_mem _ _ _ hr)).2
    rw [tk_pr_cons, List.map_cons, List.map_append]
    rcases Int.lt_trichotomy key x with hk | hk | hk
    · rw [tk_sk_lt (xs := xs) hx hk, ← hL (d + 1) lo x h.L]
      simp only [tk_sk, if_pos hx]
      rw [if_neg (by omega), if_pos hk, tk_sk_app _ lo x (fun y hy q => by have := gR y hy; omega)]
    · subst hk
      rw [tk_sk_eq hx, tk_sk_eq hx]
    · rw [tk_sk_gt (xs := xs) hx hk, ← hR (d + 1) x hi h.R]
      simp only [tk_sk, if_pos hx]
      rw [if_neg (by omega), if_neg (by omega), tk_sk_pre _ x hi (fun y hy q => by have := gL y hy; omega)]
theorem tk_pr_sk : ∀ (L : List Int) (d lo hi : Int), tk_in lo hi L → ∀ r ∈ tk_pr d L, r.2 = d - 1 + ((tk_sk r.1 L lo hi).length : Int) := by
  intro L
  refine tk_ind (P := fun L => ∀ (d lo hi : Int), tk_in lo hi L → ∀ r ∈ tk_pr d L, r.2 = d - 1 + ((tk_sk r.1 L lo hi).length : Int)) ?_ ?_ L
  · intro d lo hi _ r h
    exact absurd h List.not_mem_nil
  · intro x xs hL hR d lo hi h r hr
    have hx := h.hd
    rw [tk_pr_cons] at hr
    rcases List.mem_cons.mp hr with rfl | hr
    · rw [tk_sk_eq hx]
      simp
    · rcases List.mem_append.mp hr with hr | hr
      · have hk := (tk_mL.mp (tk_pr_mem _ _ _ hr)).2
        have := hL (d + 1) lo x h.L r hr
        rw [tk_sk_lt hx hk, this]
        simp only [List.length_cons]
        omega
      · have hk := (tk_mR.mp (tk_pr_mem _ _ _ hr)).2
        have := hR (d + 1) x hi h.R r hr
        rw [tk_sk_gt hx hk, this]
        simp only [List.length_cons]
        omega
/-- the nodes as the keys in the order in which they came -/
theorem tk_pr_permd (L : List Int) (d lo hi : Int) (hn : L.Nodup) (h : tk_in lo hi L) : (tk_pr d L).Perm (L.map (fun k => (k, d - 1 + ((tk_sk k L lo hi).length : Int)))) := by
  have e : tk_pr d L = ((tk_pr d L).map Prod.fst).map (fun k => (k, d - 1 + ((tk_sk k L lo hi).length : Int))) := by
    rw [List.map_map]
    conv => lhs; rw [← List.map_id (tk_pr d L)]
    refine List.map_congr_left (fun r hr => ?_)
    show r = (r.1, _)
    rw [← tk_pr_sk L d lo hi h r hr]
  rw [e]
  exact (tk_pr_perm L d hn).map _
