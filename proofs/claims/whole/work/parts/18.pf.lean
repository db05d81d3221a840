/-! a tree in the reference: the list of its keys in the order in which they came -/
def ab_mT (z : Nat → Int) (t : Nat) (L : List Int) (mk : Int → Int) : Prop := z t = (L.length : Int) ∧ ∀ (i : Nat) (x : Int), L[i]? = some x → z (t + 1 + i) = x ∧ z (t + 121 + i) = mk x
theorem tk_sk_len {key : Int} : ∀ (L : List Int) (lo hi : Int), (tk_sk key L lo hi).length ≤ L.length := by
  intro L
  induction L with
  | nil => intro lo hi; exact Nat.le_refl _
  | cons y ys ih =>
    intro lo hi
    simp only [tk_sk]
    have a := ih lo hi
    have b := ih lo y
    have c := ih y hi
    split
    · split
      · simp
      · split <;> simp only [List.length_cons] <;> omega
    · simp only [List.length_cons]; omega
theorem tk_sk_unc {k : Int} : ∀ (L : List Int) (lo hi x : Int) (S : List Int), tk_sk k L lo hi = x :: S → (lo < x ∧ x < hi) ∧ (x = k → S = []) ∧ (k < x → ∃ L2, S = tk_sk k L2 lo x) ∧ (x < k → ∃ L2, S = tk_sk k L2 x hi) := by
  intro L
  induction L with
  | nil => intro lo hi x S h; cases h
  | cons y ys ih =>
    intro lo hi x S h
    simp only [tk_sk] at h
    by_cases hy : lo < y ∧ y < hi
    · rw [if_pos hy] at h
      by_cases he : y = k
      · rw [if_pos he] at h
        injection h with h1 h2
        subst h1
        exact ⟨hy, fun _ => h2.symm, fun q => by omega, fun q => by omega⟩
      · rw [if_neg he] at h
        by_cases hk : k < y
        · rw [if_pos hk] at h
          injection h with h1 h2
          subst h1
          exact ⟨hy, fun q => absurd q he, fun _ => ⟨ys, h2.symm⟩, fun q => by omega⟩
        · rw [if_neg hk] at h
          injection h with h1 h2
          subst h1
          exact ⟨hy, fun q => absurd q he, fun q => by omega, fun _ => ⟨ys, h2.symm⟩⟩
    · rw [if_neg hy] at h
      exact ih lo hi x S h
theorem tk_bp_mem {k : Int} : ∀ (p : List Int) (lo hi : Int), (tk_bp k p lo hi).1 = lo ∨ (tk_bp k p lo hi).1 ∈ p := by
  intro p
  induction p with
  | nil => intro lo hi; exact Or.inl rfl
  | cons x p ih =>
    intro lo hi
    rcases Int.lt_trichotomy k x with h | h | h
    · rw [tk_bp_lt h]
      exact (ih lo x).imp id (fun q => List.mem_cons_of_mem _ q)
    · subst h
      rw [tk_bp_eq]
      exact Or.inl rfl
    · rw [tk_bp_gt h]
      rcases ih x hi with q | q
      · rw [q]; exact Or.inr List.mem_cons_self
      · exact Or.inr (List.mem_cons_of_mem _ q)
section PX5
variable {z : Nat → Int} {t : Nat} {L : List Int} {mk : Int → Int}
theorem ab_mrow (hm : ab_mT z t L mk) (hg : ab_g L mk) {i : Nat} {x : Int} (h : L[i]? = some x) : z (t + 1 + i) = x ∧ z (t + 121 + i) = mk x ∧ x ∈ L ∧ (-1 < x ∧ x < 500) ∧ (mk x = 0 ∨ mk x = 1) ∧ i < L.length :=
  ⟨(hm.2 i x h).1, (hm.2 i x h).2, List.mem_of_getElem? h, hg.2.1 x (List.mem_of_getElem? h), hg.2.2.2 x, (List.getElem?_eq_some_iff.mp h).1⟩
theorem sp_X5_placeOf (hm : ab_mT z t L mk) (hg : ab_g L mk) (ht : t ≤ 241) {key : Int} (hk : inR key) {Q : Int → Prop} (h1 : key ∉ L → Q (-1)) (h2 : ∀ i : Nat, L[i]? = some key → Q (i : Int)) : wp_X5_placeOf z (t : Int) key Q := by
  have hz := hm.1
  have hl := hg.2.2.1
  have main : ∀ (S : List Int) (i : Nat) (p : Int), L.drop i = S → i ≤ L.length → inR p → (key ∉ S → Q p) → lq2 (wp_X5_placeOf_5 z (t : Int) key Q) (S.length + 1) p (i : Int) := by
    intro S
    induction S with
    | nil =>
      intro i p hS hi hp q
      have h9 := ab_drop_nil hS
      show wp_X5_placeOf_5 z (t : Int) key Q (lq2 (wp_X5_placeOf_5 z (t : Int) key Q) 0) p (i : Int)
      unfold wp_X5_placeOf_5
      simp only [Int.toNat_natCast, hz]
      exact ⟨by omega, by omega, by omega, fun _ => q (fun h => absurd h List.not_mem_nil), fun h => absurd (by omega) h⟩
    | cons x S ih =>
      intro i p hS hi hp q
      obtain ⟨hx, hS1, hlt⟩ := ab_drop hS
      obtain ⟨e1, e2, e3, e4, e5, e6⟩ := ab_mrow hm hg hx
      show wp_X5_placeOf_5 z (t : Int) key Q (lq2 (wp_X5_placeOf_5 z (t : Int) key Q) (S.length + 1)) p (i : Int)
      generalize lq2 (wp_X5_placeOf_5 z (t : Int) key Q) (S.length + 1) = K at ih ⊢
      have nx : ∀ p, inR p → (key ∉ S → Q p) → K p ((i : Int) + 1) := by
        intro p hp q
        have := ih (i + 1) p hS1 (by omega) hp q
        push_cast at this
        exact this
      have ei : ((t : Int) + 1 + (i : Int)).toNat = t + 1 + i := by omega
      unfold wp_X5_placeOf_5
      simp only [Int.toNat_natCast, hz, ei, e1]
      refine ⟨by omega, by omega, by omega, fun h => absurd h (by omega), fun _ => ⟨by omega, by omega, by omega, fun h => nx p hp (fun hn => q (fun hh => ?_)), fun h => nx (i : Int) (by omega) (fun _ => ?_)⟩⟩
      · rcases List.mem_cons.mp hh with hh | hh
        · exact h hh.symm
        · exact hn hh
      · have : x = key := by omega
        subst this
        exact h2 i hx
  unfold wp_X5_placeOf
  exact ⟨_, main L 0 (-1) rfl (Nat.zero_le _) (by decide) h1⟩
theorem sp_X5_isPresent (hm : ab_mT z t L mk) (hg : ab_g L mk) (ht : t ≤ 241) {key : Int} (hk : inR key) {Q : Int → Prop} (h1 : ¬ (key ∈ L ∧ mk key = 0) → Q 0) (h2 : key ∈ L ∧ mk key = 0 → Q 1) : wp_X5_isPresent z (t : Int) key Q := by
  unfold wp_X5_isPresent
  have hl := hg.2.2.1
  refine sp_X5_placeOf hm hg ht hk (fun h => ⟨by decide, fun _ => h1 (fun q => h q.1), fun h => absurd rfl h⟩) (fun i hx => ?_)
  obtain ⟨e1, e2, e3, e4, e5, e6⟩ := ab_mrow hm hg hx
  have ei : ((t : Int) + 121 + (i : Int)).toNat = t + 121 + i := by omega
  simp only [ei, e2]
  exact ⟨by omega, fun h => absurd h (by omega), fun _ => ⟨by omega, by omega, fun h => h1 (fun q => h q.2), fun h => h2 ⟨e3, by omega⟩⟩⟩
theorem sp_X5_seek (hm : ab_mT z t L mk) (hg : ab_g L mk) (ht : t ≤ 241) {key : Int} (hk : inR key) {nvi low high : Int} {vi : Nat → Int} {Q : Int → Int → Int → (Nat → Int) → Prop}
    (hQ : ∀ (low high : Int) (vi : Nat → Int), ab_ar vi (ab_s key L) → Q ((ab_s key L).length : Int) low high vi) : wp_X5_seek nvi low high z vi (t : Int) key Q := by
  have hz := hm.1
  have hl := hg.2.2.1
  have main : ∀ (S : List Int) (i : Nat) (V : List Int) (lo hi : Int) (vi : Nat → Int) (f : Int), L.drop i = S → i ≤ L.length → inR lo → inR hi → V.length ≤ i → ab_ar vi V →
      ((f = 1 ∧ V = ab_s key L) ∨ (f = 0 ∧ V ++ tk_sk key S lo hi = ab_s key L)) → lq6 (wp_X5_seek_22 z (t : Int) key Q) (S.length + 1) (V.length : Int) lo hi vi f (i : Int) := by
    intro S
    induction S with
    | nil =>
      intro i V lo hi vi f hS hi9 hlo hhi hV hvi hf
      have h9 := ab_drop_nil hS
      show wp_X5_seek_22 z (t : Int) key Q (lq6 (wp_X5_seek_22 z (t : Int) key Q) 0) (V.length : Int) lo hi vi f (i : Int)
      unfold wp_X5_seek_22
      simp only [Int.toNat_natCast, hz]
      have eV : V = ab_s key L := by
        rcases hf with h | h
        · exact h.2
        · have := h.2
          simpa [tk_sk] using this
      subst eV
      exact ⟨by omega, by omega, by omega, fun _ => hQ _ _ _ hvi, fun h => absurd (by omega) h⟩
    | cons x S ih =>
      intro i V lo hi vi f hS hi9 hlo hhi hV hvi hf
      obtain ⟨hx, hS1, hlt⟩ := ab_drop hS
      obtain ⟨e1, e2, e3, e4, e5, e6⟩ := ab_mrow hm hg hx
      show wp_X5_seek_22 z (t : Int) key Q (lq6 (wp_X5_seek_22 z (t : Int) key Q) (S.length + 1)) (V.length : Int) lo hi vi f (i : Int)
      generalize lq6 (wp_X5_seek_22 z (t : Int) key Q) (S.length + 1) = K at ih ⊢
      have nx : ∀ (V : List Int) (lo hi : Int) (vi : Nat → Int) (f : Int), inR lo → inR hi → V.length ≤ i + 1 → ab_ar vi V → ((f = 1 ∧ V = ab_s key L) ∨ (f = 0 ∧ V ++ tk_sk key S lo hi = ab_s key L)) → K (V.length : Int) lo hi vi f ((i : Int) + 1) := by
        intro V lo hi vi f a b c d e
        have := ih (i + 1) V lo hi vi f hS1 (by omega) a b c d e
        push_cast at this
        exact this
      have ei : ((t : Int) + 1 + (i : Int)).toNat = t + 1 + i := by omega
      have app : ab_ar (uI vi V.length x) (V ++ [x]) := by
        intro j y hj
        unfold uI
        by_cases hj2 : j < V.length
        · rw [if_neg (by omega)]
          rw [List.getElem?_append_left hj2] at hj
          exact hvi j y hj
        · rw [List.getElem?_append_right (by omega)] at hj
          have hlt := (List.getElem?_eq_some_iff.mp hj).1
          simp at hlt
          have : j - V.length = 0 := by omega
          rw [this] at hj
          rw [if_pos (by omega)]
          simpa using hj
      have len1 : ((V ++ [x]).length : Int) = (V.length : Int) + 1 := by simp
      unfold wp_X5_seek_22 wp_X5_seek_100 wp_X5_seek_117
      simp only [Int.toNat_natCast, hz, ei, e1]
      simp only [tk_sk] at hf
      refine ⟨by omega, by omega, by omega, fun h => absurd h (by omega), fun _ => ⟨by omega, fun h => ?_, fun h => ?_⟩⟩
      · have eV : V = ab_s key L := by
          rcases hf with h2 | h2
          · exact h2.2
          · omega
        subst eV
        exact hQ _ _ _ hvi
      · have hf := (hf.resolve_left (by omega)).2
        refine ⟨by omega, by omega, hlo, fun h2 => ?_, fun h2 => ⟨by omega, hhi, fun h3 => ?_, fun h3 => ?_⟩⟩
        · rw [if_neg (by omega)] at hf
          exact nx V lo hi vi f hlo hhi (by omega) hvi (Or.inr ⟨by omega, hf⟩)
        · rw [if_neg (by omega)] at hf
          exact nx V lo hi vi f hlo hhi (by omega) hvi (Or.inr ⟨by omega, hf⟩)
        · rw [if_pos (by omega)] at hf
          rw [← len1]
          refine ⟨by omega, by omega, hk, fun h4 => ⟨hk, by omega, fun h5 => ⟨hk, by omega, fun h6 => by omega, fun h6 => ?_⟩, fun h5 => ⟨hk, by omega, fun h6 => ?_, fun h6 => by omega⟩⟩, fun h4 => ⟨hk, by omega, fun h5 => ⟨hk, by omega, fun h6 => ?_, fun h6 => by omega⟩, fun h5 => by omega⟩⟩
          · rw [if_neg (by omega), if_neg (by omega)] at hf
            exact nx (V ++ [x]) x hi _ 0 (by omega) hhi (by simp; omega) app (Or.inr ⟨rfl, by rw [List.append_assoc]; exact hf⟩)
          · rw [if_neg (by omega), if_pos (by omega)] at hf
            exact nx (V ++ [x]) lo x _ 0 hlo (by omega) (by simp; omega) app (Or.inr ⟨rfl, by rw [List.append_assoc]; exact hf⟩)
          · rw [if_pos (by omega)] at hf
            exact nx (V ++ [x]) lo hi _ 1 hlo hhi (by simp; omega) app (Or.inl ⟨rfl, hf⟩)
  unfold wp_X5_seek
  exact ⟨_, main L 0 [] (-1) 500 vi 0 rfl (Nat.zero_le _) (by decide) (by decide) (Nat.le_refl _) (fun i x h => by simp at h) (Or.inr ⟨rfl, rfl⟩)⟩
theorem sp_X5_depthOf (hm : ab_mT z t L mk) (hg : ab_g L mk) (ht : t ≤ 241) {key : Int} (hk : inR key) {nvi low high : Int} {vi : Nat → Int} {Q : Int → Int → Int → Int → (Nat → Int) → Prop}
    (hQ : ∀ (nvi low high : Int) (vi : Nat → Int), Q (ab_dep L key) nvi low high vi) : wp_X5_depthOf nvi low high z vi (t : Int) key Q := by
  unfold wp_X5_depthOf
  exact sp_X5_seek hm hg ht hk (fun low high vi _ => hQ _ _ _ _)
theorem ab_nodup_ix (hg : ab_g L mk) {i j : Nat} {x : Int} (h1 : L[i]? = some x) (h2 : L[j]? = some x) : i = j := (List.getElem?_inj (List.getElem?_eq_some_iff.mp h1).1 hg.1).mp (h1.trans h2.symm)
theorem sp_X5_put (hm : ab_mT z t L mk) (hg : ab_g L mk) (ht : t ≤ 241) {key : Int} (hk : 0 ≤ key ∧ key < 500) (hl : key ∈ L ∨ L.length < 120) {Q : (Nat → Int) → Prop}
    (hQ : ∀ z2, ab_mT z2 t (ab_put L key) (uM mk key 0) → (∀ j, ¬ (t ≤ j ∧ j < t + 241) → z2 j = z j) → Q z2) : wp_X5_put z (t : Int) key Q := by
  have hz := hm.1
  have hl0 := hg.2.2.1
  unfold wp_X5_put
  refine sp_X5_placeOf hm hg ht (by omega) (fun h => ⟨by decide, fun h => absurd rfl h, fun _ => ?_⟩) (fun i hx => ?_)
  · have hlt := hl.resolve_left h
    have ei : ((t : Int) + 1 + (L.length : Int)).toNat = t + 1 + L.length := by omega
    have em : ((t : Int) + 121 + (L.length : Int)).toNat = t + 121 + L.length := by omega
    unfold wp_X5_put_40
    simp only [Int.toNat_natCast, hz, ei, em]
    refine ⟨by omega, by omega, by omega, by omega, by omega, hQ _ ⟨?_, ?_⟩ ?_⟩
    · have ep : ab_put L key = L ++ [key] := by unfold ab_put; rw [if_neg h]
      rw [ep]
      unfold uI
      rw [if_neg (by omega), if_pos rfl, if_neg (by omega), hz]
      simp
    · have ep : ab_put L key = L ++ [key] := by unfold ab_put; rw [if_neg h]
      rw [ep]
      intro i x hx
      by_cases hi : i < L.length
      · rw [List.getElem?_append_left hi] at hx
        obtain ⟨e1, e2, e3, e4, e5, e6⟩ := ab_mrow hm hg hx
        have hne : x ≠ key := fun e => h (e ▸ e3)
        unfold uI uM
        rw [if_neg (by omega), if_neg (by omega), if_neg (by omega), if_neg (by omega), if_neg (by omega), if_neg (by omega), if_neg hne]
        exact ⟨e1, e2⟩
      · rw [List.getElem?_append_right (by omega)] at hx
        have hlt2 := (List.getElem?_eq_some_iff.mp hx).1
        simp at hlt2
        have ei2 : i = L.length := by omega
        subst ei2
        have : key = x := by simpa using hx
        subst this
        unfold uI uM
        rw [if_neg (by omega), if_neg (by omega), if_pos rfl, if_pos rfl, if_pos rfl]
        exact ⟨rfl, rfl⟩
    · intro j hj
      unfold uI
      rw [if_neg (by omega), if_neg (by omega), if_neg (by omega)]
  · obtain ⟨e1, e2, e3, e4, e5, e6⟩ := ab_mrow hm hg hx
    have em : ((t : Int) + 121 + (i : Int)).toNat = t + 121 + i := by omega
    have ep : ab_put L key = L := by unfold ab_put; rw [if_pos e3]
    unfold wp_X5_put_40
    simp only [em]
    refine ⟨by omega, fun _ => ⟨by omega, hQ _ ⟨?_, ?_⟩ ?_⟩, fun h => absurd (by omega) h⟩
    · rw [ep]
      unfold uI
      rw [if_neg (by omega)]
      exact hz
    · rw [ep]
      intro j x hj
      obtain ⟨f1, f2, f3, f4, f5, f6⟩ := ab_mrow hm hg hj
      unfold uI uM
      rw [if_neg (by omega)]
      refine ⟨f1, ?_⟩
      by_cases hij : j = i
      · subst hij
        rw [hx] at hj
        rw [if_pos rfl, if_pos (Option.some.inj hj).symm]
      · rw [if_neg (by omega), if_neg (fun e : x = key => hij (ab_nodup_ix hg hj (by rw [e]; exact hx)))]
        exact f2
    · intro j hj
      unfold uI
      rw [if_neg (by omega)]
theorem sp_X5_mark (hm : ab_mT z t L mk) (hg : ab_g L mk) (ht : t ≤ 241) {key : Int} (hk : 0 ≤ key ∧ key < 500) {Q : (Nat → Int) → Prop}
    (hQ : ∀ z2, ab_mT z2 t L (if key ∈ L then uM mk key 1 else mk) → (∀ j, ¬ (t ≤ j ∧ j < t + 241) → z2 j = z j) → Q z2) : wp_X5_mark z (t : Int) key Q := by
  have hz := hm.1
  have hl0 := hg.2.2.1
  unfold wp_X5_mark
  refine sp_X5_placeOf hm hg ht (by omega) (fun h => ⟨by decide, fun _ => hQ z (by rw [if_neg h]; exact hm) (fun _ _ => rfl), fun h => absurd rfl h⟩) (fun i hx => ?_)
  obtain ⟨e1, e2, e3, e4, e5, e6⟩ := ab_mrow hm hg hx
  have em : ((t : Int) + 121 + (i : Int)).toNat = t + 121 + i := by omega
  simp only [em]
  refine ⟨by omega, fun h => absurd h (by omega), fun _ => ⟨by omega, hQ _ ⟨?_, ?_⟩ ?_⟩⟩
  · unfold uI
    rw [if_neg (by omega)]
    exact hz
  · rw [if_pos e3]
    intro j x hj
    obtain ⟨f1, f2, f3, f4, f5, f6⟩ := ab_mrow hm hg hj
    unfold uI uM
    rw [if_neg (by omega)]
    refine ⟨f1, ?_⟩
    by_cases hij : j = i
    · subst hij
      rw [hx] at hj
      rw [if_pos rfl, if_pos (Option.some.inj hj).symm]
    · rw [if_neg (by omega), if_neg (fun e : x = key => hij (ab_nodup_ix hg hj (by rw [e]; exact hx)))]
      exact f2
  · intro j hj
    unfold uI
    rw [if_neg (by omega)]
theorem sp_X5_markedIn (hm : ab_mT z t L mk) (hg : ab_g L mk) (ht : t ≤ 241) {Q : Int → Prop} (hQ : Q ((L.length : Int) - ab_np L mk)) : wp_X5_markedIn z (t : Int) Q := by
  have hz := hm.1
  have hl := hg.2.2.1
  have main : ∀ (S : List Int) (i : Nat) (acc : Int), L.drop i = S → i ≤ L.length → Q (acc + ((S.length : Int) - ab_np S mk)) → lq2 (wp_X5_markedIn_4 z (t : Int) Q) (S.length + 1) acc (i : Int) := by
    intro S
    induction S with
    | nil =>
      intro i acc hS hi q
      have h9 := ab_drop_nil hS
      show wp_X5_markedIn_4 z (t : Int) Q (lq2 (wp_X5_markedIn_4 z (t : Int) Q) 0) acc (i : Int)
      unfold wp_X5_markedIn_4
      simp only [Int.toNat_natCast, hz]
      exact ⟨by omega, by omega, by omega, fun _ => by simpa [ab_np] using q, fun h => absurd (by omega) h⟩
    | cons x S ih =>
      intro i acc hS hi q
      obtain ⟨hx, hS1, hlt⟩ := ab_drop hS
      obtain ⟨e1, e2, e3, e4, e5, e6⟩ := ab_mrow hm hg hx
      show wp_X5_markedIn_4 z (t : Int) Q (lq2 (wp_X5_markedIn_4 z (t : Int) Q) (S.length + 1)) acc (i : Int)
      generalize lq2 (wp_X5_markedIn_4 z (t : Int) Q) (S.length + 1) = K at ih ⊢
      have em : ((t : Int) + 121 + (i : Int)).toNat = t + 121 + i := by omega
      unfold wp_X5_markedIn_4
      simp only [Int.toNat_natCast, hz, em, e2]
      refine ⟨by omega, by omega, by omega, fun h => absurd h (by omega), fun _ => ⟨by omega, ?_⟩⟩
      have := ih (i + 1) (acc + mk x) hS1 (by omega) (by
        have e : ((x :: S).length : Int) - ab_np (x :: S) mk = mk x + ((S.length : Int) - ab_np S mk) := by
          unfold ab_np
          rw [List.countP_cons, List.length_cons]
          rcases e5 with e5 | e5 <;> simp [e5] <;> omega
        rw [e] at q
        rw [Int.add_assoc]
        exact q)
      push_cast at this
      exact this
  unfold wp_X5_markedIn
  exact ⟨_, main L 0 0 rfl (Nat.zero_le _) (by rw [Int.zero_add]; exact hQ)⟩
theorem sp_X5_presentIn (hm : ab_mT z t L mk) (hg : ab_g L mk) (ht : t ≤ 241) {Q : Int → Prop} (hQ : Q (ab_np L mk)) : wp_X5_presentIn z (t : Int) Q := by
  unfold wp_X5_presentIn
  refine ⟨by omega, sp_X5_markedIn hm hg ht ?_⟩
  rw [Int.toNat_natCast, hm.1, show (L.length : Int) - ((L.length : Int) - ab_np L mk) = ab_np L mk by omega]
  exact hQ
theorem ab_dep_le (hg : ab_g L mk) (y : Int) : 0 ≤ ab_dep L y ∧ ab_dep L y ≤ 120 := by
  have := tk_sk_len (key := y) L (-1) 500
  have := hg.2.2.1
  unfold ab_dep ab_s
  omega
theorem sp_X5_depthIn (hm : ab_mT z t L mk) (hg : ab_g L mk) (ht : t ≤ 241) {nvi low high : Int} {vi : Nat → Int} {Q : Int → Int → Int → Int → (Nat → Int) → Prop}
    (hQ : ∀ (nvi low high : Int) (vi : Nat → Int), Q (ab_dmax L) nvi low high vi) : wp_X5_depthIn nvi low high z vi (t : Int) Q := by
  have hz := hm.1
  have hl := hg.2.2.1
  have main : ∀ (S : List Int) (i : Nat) (acc nvi low high : Int) (vi : Nat → Int), L.drop i = S → i ≤ L.length → (0 ≤ acc ∧ acc ≤ 120) → (∀ (nvi low high : Int) (vi : Nat → Int), Q (S.foldl (fun g y => max g (ab_dep L y)) acc) nvi low high vi) → lq6 (wp_X5_depthIn_4 z (t : Int) Q) (S.length + 1) nvi low high vi acc (i : Int) := by
    intro S
    induction S with
    | nil =>
      intro i acc nvi low high vi hS hi hacc q
      have h9 := ab_drop_nil hS
      show wp_X5_depthIn_4 z (t : Int) Q (lq6 (wp_X5_depthIn_4 z (t : Int) Q) 0) nvi low high vi acc (i : Int)
      unfold wp_X5_depthIn_4
      simp only [Int.toNat_natCast, hz]
      exact ⟨by omega, by omega, by omega, fun _ => q _ _ _ _, fun h => absurd (by omega) h⟩
    | cons x S ih =>
      intro i acc nvi low high vi hS hi hacc q
      obtain ⟨hx, hS1, hlt⟩ := ab_drop hS
      obtain ⟨e1, e2, e3, e4, e5, e6⟩ := ab_mrow hm hg hx
      show wp_X5_depthIn_4 z (t : Int) Q (lq6 (wp_X5_depthIn_4 z (t : Int) Q) (S.length + 1)) nvi low high vi acc (i : Int)
      generalize lq6 (wp_X5_depthIn_4 z (t : Int) Q) (S.length + 1) = K at ih ⊢
      have ei : ((t : Int) + 1 + (i : Int)).toNat = t + 1 + i := by omega
      have hd := ab_dep_le hg x
      have nx : ∀ (acc nvi low high : Int) (vi : Nat → Int), (0 ≤ acc ∧ acc ≤ 120) → (∀ (nvi low high : Int) (vi : Nat → Int), Q (S.foldl (fun g y => max g (ab_dep L y)) acc) nvi low high vi) → K nvi low high vi acc ((i : Int) + 1) := by
        intro acc nvi low high vi a b
        have := ih (i + 1) acc nvi low high vi hS1 (by omega) a b
        push_cast at this
        exact this
      unfold wp_X5_depthIn_4
      simp only [Int.toNat_natCast, hz, ei, e1]
      refine ⟨by omega, by omega, by omega, fun h => absurd h (by omega), fun _ => ⟨by omega, sp_X5_depthOf hm hg ht (by omega) (fun nvi low high vi => ⟨by omega, by omega, fun h => nx _ _ _ _ _ hacc (fun a b c d => ?_), fun h => nx _ _ _ _ _ (by omega) (fun a b c d => ?_)⟩)⟩⟩
      · have := q a b c d
        rw [List.foldl_cons, Int.max_eq_left (by omega)] at this
        exact this
      · have := q a b c d
        rw [List.foldl_cons, Int.max_eq_right (by omega)] at this
        exact this
  unfold wp_X5_depthIn
  exact ⟨_, main L 0 0 _ _ _ _ rfl (Nat.zero_le _) (by decide) hQ⟩
theorem sp_X5_depths (hm : ab_mT z t L mk) (hg : ab_g L mk) (ht : t ≤ 241) {nvi low high : Int} {vi : Nat → Int} {Q : Int → Int → Int → Int → (Nat → Int) → Prop}
    (hQ : ∀ (nvi low high : Int) (vi : Nat → Int), Q (ab_dsum L) nvi low high vi) : wp_X5_depths nvi low high z vi (t : Int) Q := by
  have hz := hm.1
  have hl := hg.2.2.1
  have main : ∀ (S : List Int) (i : Nat) (acc nvi low high : Int) (vi : Nat → Int), L.drop i = S → i ≤ L.length → (∀ (nvi low high : Int) (vi : Nat → Int), Q (S.foldl (fun g y => g + ab_dep L y) acc) nvi low high vi) → lq6 (wp_X5_depths_4 z (t : Int) Q) (S.length + 1) nvi low high vi acc (i : Int) := by
    intro S
    induction S with
    | nil =>
      intro i acc nvi low high vi hS hi q
      have h9 := ab_drop_nil hS
      show wp_X5_depths_4 z (t : Int) Q (lq6 (wp_X5_depths_4 z (t : Int) Q) 0) nvi low high vi acc (i : Int)
      unfold wp_X5_depths_4
      simp only [Int.toNat_natCast, hz]
      exact ⟨by omega, by omega, by omega, fun _ => q _ _ _ _, fun h => absurd (by omega) h⟩
    | cons x S ih =>
      intro i acc nvi low high vi hS hi q
      obtain ⟨hx, hS1, hlt⟩ := ab_drop hS
      obtain ⟨e1, e2, e3, e4, e5, e6⟩ := ab_mrow hm hg hx
      show wp_X5_depths_4 z (t : Int) Q (lq6 (wp_X5_depths_4 z (t : Int) Q) (S.length + 1)) nvi low high vi acc (i : Int)
      generalize lq6 (wp_X5_depths_4 z (t : Int) Q) (S.length + 1) = K at ih ⊢
      have ei : ((t : Int) + 1 + (i : Int)).toNat = t + 1 + i := by omega
      unfold wp_X5_depths_4
      simp only [Int.toNat_natCast, hz, ei, e1]
      refine ⟨by omega, by omega, by omega, fun h => absurd h (by omega), fun _ => ⟨by omega, sp_X5_depthOf hm hg ht (by omega) (fun nvi low high vi => ?_)⟩⟩
      have := ih (i + 1) (acc + ab_dep L x) nvi low high vi hS1 (by omega) (fun a b c d => q a b c d)
      push_cast at this
      exact this
  unfold wp_X5_depths
  exact ⟨_, main L 0 0 _ _ _ _ rfl (Nat.zero_le _) hQ⟩
theorem sp_X5_rankOf (hm : ab_mT z t L mk) (hg : ab_g L mk) (ht : t ≤ 241) {key : Int} (hk : inR key) {Q : Int → Prop} (hQ : Q (ab_rank L mk key)) : wp_X5_rankOf z (t : Int) key Q := by
  have hz := hm.1
  have hl := hg.2.2.1
  have main : ∀ (S : List Int) (i : Nat) (acc : Int), L.drop i = S → i ≤ L.length → Q (acc + ab_rank S mk key) → lq2 (wp_X5_rankOf_5 z (t : Int) key Q) (S.length + 1) acc (i : Int) := by
    intro S
    induction S with
    | nil =>
      intro i acc hS hi q
      have h9 := ab_drop_nil hS
      show wp_X5_rankOf_5 z (t : Int) key Q (lq2 (wp_X5_rankOf_5 z (t : Int) key Q) 0) acc (i : Int)
      unfold wp_X5_rankOf_5
      simp only [Int.toNat_natCast, hz]
      exact ⟨by omega, by omega, by omega, fun _ => by simpa [ab_rank] using q, fun h => absurd (by omega) h⟩
    | cons x S ih =>
      intro i acc hS hi q
      obtain ⟨hx, hS1, hlt⟩ := ab_drop hS
      obtain ⟨e1, e2, e3, e4, e5, e6⟩ := ab_mrow hm hg hx
      show wp_X5_rankOf_5 z (t : Int) key Q (lq2 (wp_X5_rankOf_5 z (t : Int) key Q) (S.length + 1)) acc (i : Int)
      generalize lq2 (wp_X5_rankOf_5 z (t : Int) key Q) (S.length + 1) = K at ih ⊢
      have ei : ((t : Int) + 1 + (i : Int)).toNat = t + 1 + i := by omega
      have em : ((t : Int) + 121 + (i : Int)).toNat = t + 121 + i := by omega
      have nx : ∀ acc, Q (acc + ab_rank S mk key) → K acc ((i : Int) + 1) := by
        intro acc q
        have := ih (i + 1) acc hS1 (by omega) q
        push_cast at this
        exact this
      unfold wp_X5_rankOf_5
      simp only [Int.toNat_natCast, hz, ei, em, e1, e2]
      unfold ab_rank at q nx
      refine ⟨by omega, by omega, by omega, fun h => absurd h (by omega), fun _ => ⟨by omega, by omega, hk, fun h => nx _ ?_, fun h => ⟨by omega, by omega, fun h2 => nx _ ?_, fun h2 => nx _ ?_⟩⟩⟩
      · rw [List.countP_cons_of_neg (by simp; omega)] at q
        rw [Int.add_zero]
        exact q
      · rw [List.countP_cons_of_neg (by simp; omega)] at q
        rw [Int.add_zero]
        exact q
      · rw [List.countP_cons_of_pos (by simp; omega)] at q
        push_cast at q
        rw [show acc + 1 + ((S.countP (fun y => decide (mk y = 0 ∧ y < key)) : Nat) : Int) = acc + (((S.countP (fun y => decide (mk y = 0 ∧ y < key)) : Nat) : Int) + 1) by omega]
        exact q
  unfold wp_X5_rankOf
  exact ⟨_, main L 0 0 rfl (Nat.zero_le _) (by rw [Int.zero_add]; exact hQ)⟩
theorem sp_X5_between (hm : ab_mT z t L mk) (hg : ab_g L mk) (ht : t ≤ 241) {lo hi w : Int} (hlo : inR lo) (hhi : inR hi) (hw : w = 0 ∨ w = 1) {Q : Int → Prop} (hQ : Q (L.countP (fun y => decide (lo < y ∧ y < hi) && decide (w = 0 ∨ mk y = 0)) : Nat)) : wp_X5_between z (t : Int) lo hi w Q := by
  have hz := hm.1
  have hl := hg.2.2.1
  have main : ∀ (S : List Int) (i : Nat) (acc : Int), L.drop i = S → i ≤ L.length → Q (acc + (S.countP (fun y => decide (lo < y ∧ y < hi) && decide (w = 0 ∨ mk y = 0)) : Nat)) → lq2 (wp_X5_between_6 z (t : Int) lo hi w Q) (S.length + 1) acc (i : Int) := by
    intro S
    induction S with
    | nil =>
      intro i acc hS hi9 q
      have h9 := ab_drop_nil hS
      show wp_X5_between_6 z (t : Int) lo hi w Q (lq2 (wp_X5_between_6 z (t : Int) lo hi w Q) 0) acc (i : Int)
      unfold wp_X5_between_6
      simp only [Int.toNat_natCast, hz]
      exact ⟨by omega, by omega, by omega, fun _ => by simpa using q, fun h => absurd (by omega) h⟩
    | cons x S ih =>
      intro i acc hS hi9 q
      obtain ⟨hx, hS1, hlt⟩ := ab_drop hS
      obtain ⟨e1, e2, e3, e4, e5, e6⟩ := ab_mrow hm hg hx
      show wp_X5_between_6 z (t : Int) lo hi w Q (lq2 (wp_X5_between_6 z (t : Int) lo hi w Q) (S.length + 1)) acc (i : Int)
      generalize lq2 (wp_X5_between_6 z (t : Int) lo hi w Q) (S.length + 1) = K at ih ⊢
      have ei : ((t : Int) + 1 + (i : Int)).toNat = t + 1 + i := by omega
      have em : ((t : Int) + 121 + (i : Int)).toNat = t + 121 + i := by omega
      have nx : ∀ acc, Q (acc + (S.countP (fun y => decide (lo < y ∧ y < hi) && decide (w = 0 ∨ mk y = 0)) : Nat)) → K acc ((i : Int) + 1) := by
        intro acc q
        have := ih (i + 1) acc hS1 (by omega) q
        push_cast at this
        exact this
      have no : ¬ ((lo < x ∧ x < hi) ∧ (w = 0 ∨ mk x = 0)) → K (acc + 0) ((i : Int) + 1) := by
        intro hn
        rw [List.countP_cons_of_neg (by simpa using hn)] at q
        rw [Int.add_zero]
        exact nx _ q
      have yes : ((lo < x ∧ x < hi) ∧ (w = 0 ∨ mk x = 0)) → K (acc + 1) ((i : Int) + 1) := by
        intro hn
        rw [List.countP_cons_of_pos (by simpa using hn)] at q
        refine nx _ ?_
        push_cast at q
        rw [show acc + 1 + ((S.countP (fun y => decide (lo < y ∧ y < hi) && decide (w = 0 ∨ mk y = 0)) : Nat) : Int) = acc + (((S.countP (fun y => decide (lo < y ∧ y < hi) && decide (w = 0 ∨ mk y = 0)) : Nat) : Int) + 1) by omega]
        exact q
      unfold wp_X5_between_6 wp_X5_between_37 wp_X5_between_42
      simp only [Int.toNat_natCast, hz, ei, em, e1, e2]
      refine ⟨by omega, by omega, by omega, fun h => absurd h (by omega), fun _ => ⟨by omega, fun h => ⟨by decide, fun h => absurd h (by decide), fun _ => ⟨by omega, by omega, hlo, fun h2 => no (by omega), fun h2 => ⟨by omega, by omega, hhi, fun h3 => no (by omega), fun h3 => yes (by omega)⟩⟩⟩, fun h => ⟨by omega, by omega, fun h2 => ⟨by decide, fun _ => no (by omega), fun h => absurd trivial h⟩, fun h2 => ⟨by decide, fun h => absurd h (by decide), fun _ => ⟨by omega, by omega, hlo, fun h2 => no (by omega), fun h2 => ⟨by omega, by omega, hhi, fun h3 => no (by omega), fun h3 => yes (by omega)⟩⟩⟩⟩⟩⟩
  unfold wp_X5_between
  exact ⟨_, main L 0 0 rfl (Nat.zero_le _) (by rw [Int.zero_add]; exact hQ)⟩
theorem sp_X5_seekBounds (hm : ab_mT z t L mk) (hg : ab_g L mk) (ht : t ≤ 241) {k : Int} (hk : k ∈ L) {nvi low high : Int} {vi : Nat → Int} {Q : Int → Int → Int → (Nat → Int) → Prop}
    (hQ : ∀ (vi : Nat → Int), ab_ar vi (ab_s k L) → Q ((ab_s k L).length : Int) (ab_bd L k).1 (ab_bd L k).2 vi) : wp_X5_seekBounds nvi low high z vi (t : Int) k Q := by
  have hkr := hg.2.1 k hk
  have hlen := tk_sk_len (key := k) L (-1) 500
  have hl := hg.2.2.1
  have hlast := tk_sk_found L (-1) 500 hk (by omega) (by omega)
  unfold wp_X5_seekBounds
  refine sp_X5_seek hm hg ht (by omega) (fun low high vi hvi => ?_)
  have hpl : (ab_s k L).length ≤ 120 := by unfold ab_s; omega
  have main : ∀ (S : List Int) (i : Nat) (lo hi : Int), (ab_s k L).drop i = S → S ≠ [] → inR lo → inR hi → (∃ L2, S = tk_sk k L2 lo hi) → tk_bp k S lo hi = ab_bd L k → lq3 (wp_X5_seekBounds_20 ((ab_s k L).length : Int) z vi k Q) (S.length + 1) lo hi (i : Int) := by
    intro S
    induction S with
    | nil => intro i lo hi hS h; exact absurd rfl h
    | cons x S ih =>
      intro i lo hi hS _ hlo hhi hex hbp
      obtain ⟨hx, hS1, hlt⟩ := ab_drop hS
      have hvx := hvi i x hx
      obtain ⟨L2, hL2⟩ := hex
      obtain ⟨u1, u2, u3, u4⟩ := tk_sk_unc L2 lo hi x S hL2.symm
      have hxr := (tk_sk_mem L (-1) 500 x (List.mem_of_getElem? hx)).2
      show wp_X5_seekBounds_20 ((ab_s k L).length : Int) z vi k Q (lq3 (wp_X5_seekBounds_20 ((ab_s k L).length : Int) z vi k Q) (S.length + 1)) lo hi (i : Int)
      by_cases hSn : S = []
      · subst hSn
        have h9 := ab_drop_nil hS1
        unfold wp_X5_seekBounds_20
        refine ⟨by omega, by omega, fun _ => ?_, fun h => absurd (by omega) h⟩
        have hxk : x = k := by
          have e1 : (ab_s k L).getLast? = some x := by
            rw [List.getLast?_eq_getElem?]
            rw [show (ab_s k L).length - 1 = i by omega]
            exact hx
          have e2 : (ab_s k L).getLast? = some k := hlast
          rw [e1] at e2
          exact Option.some.inj e2
        subst hxk
        rw [tk_bp_eq] at hbp
        have := hQ vi hvi
        rw [← hbp] at this
        exact this
      · have hxk : x ≠ k := fun e => hSn (u2 e)
        have hi1 : i + 1 < (ab_s k L).length := by
          have := congrArg List.length hS1
          rw [List.length_drop] at this
          have : S.length ≠ 0 := fun e => hSn (List.length_eq_zero_iff.mp e)
          omega
        generalize lq3 (wp_X5_seekBounds_20 ((ab_s k L).length : Int) z vi k Q) (S.length + 1) = K at ih ⊢
        have nx : ∀ lo hi, inR lo → inR hi → (∃ L2, S = tk_sk k L2 lo hi) → tk_bp k S lo hi = ab_bd L k → K lo hi ((i : Int) + 1) := by
          intro lo hi a b c d
          have := ih (i + 1) lo hi hS1 hSn a b c d
          push_cast at this
          exact this
        unfold wp_X5_seekBounds_20 wp_X5_seekBounds_63 wp_X5_seekBounds_67
        simp only [Int.toNat_natCast, hvx]
        refine ⟨by omega, by omega, fun h => absurd h (by omega), fun _ => ⟨by omega, by omega, by omega, fun h => ⟨by omega, by omega, by omega, fun h2 => by omega, fun h2 => ⟨by omega, by omega, hhi, fun h3 => by omega, fun h3 => ⟨by omega, ?_⟩⟩⟩, fun h => ⟨by omega, by omega, hlo, fun h2 => by omega, fun h2 => ⟨by omega, by omega, by omega, by omega, fun h3 => ?_, fun h3 => by omega⟩⟩⟩⟩
        · rw [tk_bp_lt (by omega)] at hbp
          exact nx lo x hlo (by omega) (u3 (by omega)) hbp
        · rw [tk_bp_gt (by omega)] at hbp
          exact nx x hi (by omega) hhi (u4 (by omega)) hbp
  exact ⟨_, main (ab_s k L) 0 (-1) 500 rfl (tk_sk_ne hg.2.1 hk) (by decide) (by decide) ⟨L, rfl⟩ rfl⟩
theorem sp_X5_lesserAbove {p : List Int} {vi : Nat → Int} (hvi : ab_ar vi p) (hp : p.length ≤ 120) (hpr : ∀ y ∈ p, inR y) {k : Int} (hk : inR k) {Q : Int → Prop} (hQ : Q (p.dropLast.countP (fun v => decide (v < k)) : Nat)) : wp_X5_lesserAbove (p.length : Int) vi k Q := by
  have hl := List.length_dropLast (xs := p)
  have main : ∀ (S : List Int) (i : Nat) (acc : Int), p.dropLast.drop i = S → i ≤ p.dropLast.length → Q (acc + (S.countP (fun v => decide (v < k)) : Nat)) → lq2 (wp_X5_lesserAbove_4 (p.length : Int) vi k Q) (S.length + 1) acc (i : Int) := by
    intro S
    induction S with
    | nil =>
      intro i acc hS hi q
      have h9 := ab_drop_nil hS
      show wp_X5_lesserAbove_4 (p.length : Int) vi k Q (lq2 (wp_X5_lesserAbove_4 (p.length : Int) vi k Q) 0) acc (i : Int)
      unfold wp_X5_lesserAbove_4
      exact ⟨by omega, by omega, fun _ => by simpa using q, fun h => absurd (by omega) h⟩
    | cons x S ih =>
      intro i acc hS hi q
      obtain ⟨hx, hS1, hlt⟩ := ab_drop hS
      have hx2 : p[i]? = some x := by
        rw [List.dropLast_eq_take, List.getElem?_take_of_lt (by omega)] at hx
        exact hx
      have hvx := hvi i x hx2
      have hxr := hpr x (List.mem_of_getElem? hx2)
      show wp_X5_lesserAbove_4 (p.length : Int) vi k Q (lq2 (wp_X5_lesserAbove_4 (p.length : Int) vi k Q) (S.length + 1)) acc (i : Int)
      generalize lq2 (wp_X5_lesserAbove_4 (p.length : Int) vi k Q) (S.length + 1) = K at ih ⊢
      have nx : ∀ acc, Q (acc + (S.countP (fun v => decide (v < k)) : Nat)) → K acc ((i : Int) + 1) := by
        intro acc q
        have := ih (i + 1) acc hS1 (by omega) q
        push_cast at this
        exact this
      unfold wp_X5_lesserAbove_4
      simp only [Int.toNat_natCast, hvx]
      refine ⟨by omega, by omega, fun h => absurd h (by omega), fun _ => ⟨by omega, hxr, hk, fun h => nx _ ?_, fun h => nx _ ?_⟩⟩
      · rw [List.countP_cons_of_neg (by simp; omega)] at q
        rw [Int.add_zero]
        exact q
      · rw [List.countP_cons_of_pos (by simp; omega)] at q
        push_cast at q
        rw [show acc + 1 + ((S.countP (fun v => decide (v < k)) : Nat) : Int) = acc + (((S.countP (fun v => decide (v < k)) : Nat) : Int) + 1) by omega]
        exact q
  unfold wp_X5_lesserAbove
  exact ⟨_, main p.dropLast 0 0 rfl (Nat.zero_le _) (by rw [Int.zero_add]; exact hQ)⟩
end PX5
