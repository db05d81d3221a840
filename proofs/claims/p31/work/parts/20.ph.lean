/-! the list of a rebuild -/
def ab_ml : Nat → Nat → Nat → List Nat
  | 0, _, _ => []
  | f + 1, a, b => if a < b then (a + (b - a) / 2) :: (ab_ml f a (a + (b - a) / 2) ++ ab_ml f (a + (b - a) / 2 + 1) b) else []
def ab_mid (a b : Nat) : List Nat := ab_ml (b - a) a b
theorem ab_ml_fuel : ∀ (n f1 f2 a b : Nat), b - a ≤ n → n ≤ f1 → n ≤ f2 → ab_ml f1 a b = ab_ml f2 a b := by
  intro n
  induction n with
  | zero =>
    intro f1 f2 a b h _ _
    have hn : ¬ a < b := by omega
    cases f1 <;> cases f2 <;> simp [ab_ml, hn]
  | succ n ih =>
    intro f1 f2 a b h h1 h2
    obtain ⟨g1, rfl⟩ : ∃ g, f1 = g + 1 := ⟨f1 - 1, by omega⟩
    obtain ⟨g2, rfl⟩ : ∃ g, f2 = g + 1 := ⟨f2 - 1, by omega⟩
    unfold ab_ml
    by_cases hab : a < b
    · rw [if_pos hab, if_pos hab, ih g1 g2 a _ (by omega) (by omega) (by omega), ih g1 g2 _ b (by omega) (by omega) (by omega)]
    · rw [if_neg hab, if_neg hab]
theorem ab_mid_nil {a b : Nat} (h : b ≤ a) : ab_mid a b = [] := by
  unfold ab_mid
  rw [show b - a = 0 by omega]
  rfl
theorem ab_mid_cons {a b : Nat} (h : a < b) : ab_mid a b = (a + (b - a) / 2) :: (ab_mid a (a + (b - a) / 2) ++ ab_mid (a + (b - a) / 2 + 1) b) := by
  unfold ab_mid
  obtain ⟨f, hf⟩ : ∃ f, b - a = f + 1 := ⟨b - a - 1, by omega⟩
  rw [hf]
  conv => lhs; unfold ab_ml
  rw [if_pos h, hf]
  rw [ab_ml_fuel (a + (f + 1) / 2 - a) f (a + (f + 1) / 2 - a) a _ (Nat.le_refl _) (by omega) (Nat.le_refl _), ab_ml_fuel (b - (a + (f + 1) / 2 + 1)) f (b - (a + (f + 1) / 2 + 1)) _ b (Nat.le_refl _) (by omega) (Nat.le_refl _)]
theorem ab_mid_perm : ∀ (n a b : Nat), b - a ≤ n → (ab_mid a b).Perm (List.range' a (b - a)) := by
  intro n
  induction n with
  | zero =>
    intro a b h
    rw [ab_mid_nil (by omega), show b - a = 0 by omega]
    exact List.Perm.refl _
  | succ n ih =>
    intro a b h
    by_cases hab : a < b
    · rw [ab_mid_cons hab]
      have e : List.range' a (b - a) = List.range' a (a + (b - a) / 2 - a) ++ (a + (b - a) / 2) :: List.range' (a + (b - a) / 2 + 1) (b - (a + (b - a) / 2 + 1)) := by
        have h1 := List.range'_append_1 (s := a) (m := a + (b - a) / 2 - a) (n := b - (a + (b - a) / 2))
        rw [show a + (b - a) / 2 - a + (b - (a + (b - a) / 2)) = b - a by omega, show a + (a + (b - a) / 2 - a) = a + (b - a) / 2 by omega] at h1
        rw [← h1, show b - (a + (b - a) / 2) = (b - (a + (b - a) / 2 + 1)) + 1 by omega, List.range'_succ]
      rw [e]
      exact (List.Perm.cons _ ((ih a (a + (b - a) / 2) (by omega)).append (ih (a + (b - a) / 2 + 1) b (by omega)))).trans List.perm_middle.symm
    · rw [ab_mid_nil (by omega), show b - a = 0 by omega]
      exact List.Perm.refl _
theorem ab_mid_len (a b : Nat) : (ab_mid a b).length = b - a := by
  rw [(ab_mid_perm _ a b (Nat.le_refl _)).length_eq, List.length_range']
theorem ab_mid_nd (a b : Nat) : (ab_mid a b).Nodup := (ab_mid_perm _ a b (Nat.le_refl _)).nodup_iff.mpr List.nodup_range'
theorem ab_mid_lt {a b i p : Nat} (h : (ab_mid a b)[p]? = some i) : a ≤ i ∧ i < b := by
  have := (ab_mid_perm _ a b (Nat.le_refl _)).mem_iff.mp (List.mem_of_getElem? h)
  rw [List.mem_range'_1] at this
  omega
/-- the present keys below q, in their order -/
def ab_pre (L : List Int) (mk : Int → Int) : Nat → List Int
  | 0 => []
  | q + 1 => ab_pre L mk q ++ (if (q : Int) ∈ L ∧ mk (q : Int) = 0 then [(q : Int)] else [])
abbrev ab_srt (L : List Int) (mk : Int → Int) : List Int := ab_pre L mk 500
def ab_lst (L : List Int) (mk : Int → Int) : List Int := (ab_mid 0 (ab_srt L mk).length).map (fun i => (ab_srt L mk).getD i 0)
section PH
variable {L : List Int} {mk : Int → Int}
theorem ab_rank_0 (hg : ab_g L mk) : ab_rank L mk 0 = 0 := by
  unfold ab_rank
  have : L.countP (fun y => decide (mk y = 0 ∧ y < 0)) = 0 := List.countP_eq_zero.mpr (fun y hy => by have := hg.2.1 y hy; simp; omega)
  omega
theorem ab_rank_500 (hg : ab_g L mk) : ab_rank L mk 500 = ab_np L mk := by
  unfold ab_rank ab_np
  congr 1
  refine List.countP_congr (fun y hy => ?_)
  have := hg.2.1 y hy
  simp
  omega
theorem ab_pre_len (hg : ab_g L mk) (q : Nat) : ((ab_pre L mk q).length : Int) = ab_rank L mk (q : Int) := by
  induction q with
  | zero => rw [show ((0 : Nat) : Int) = 0 from rfl, ab_rank_0 hg]; rfl
  | succ q ih =>
    rw [show ((q + 1 : Nat) : Int) = (q : Int) + 1 by omega, ab_rank_s L mk _ hg.1, ← ih]
    rw [show ab_pre L mk (q + 1) = ab_pre L mk q ++ (if (q : Int) ∈ L ∧ mk (q : Int) = 0 then [(q : Int)] else []) from rfl, List.length_append]
    split <;> simp
theorem ab_srt_len (hg : ab_g L mk) : ((ab_srt L mk).length : Int) = ab_np L mk := by
  rw [← ab_rank_500 hg]
  exact ab_pre_len hg 500
theorem ab_pre_mem {x : Int} : ∀ q, x ∈ ab_pre L mk q → x ∈ L ∧ mk x = 0 := by
  intro q
  induction q with
  | zero => intro h; exact absurd h List.not_mem_nil
  | succ q ih =>
    intro h
    unfold ab_pre at h
    rcases List.mem_append.mp h with h | h
    · exact ih h
    · split at h
      · rename_i hp
        have : x = (q : Int) := by simpa using h
        subst this
        exact hp
      · exact absurd h List.not_mem_nil
theorem ab_lst_len : (ab_lst L mk).length = (ab_srt L mk).length := by
  unfold ab_lst
  rw [List.length_map, ab_mid_len]
  omega
theorem ab_lst_at {p : Nat} {x : Int} (h : (ab_lst L mk)[p]? = some x) : ∃ i, (ab_mid 0 (ab_srt L mk).length)[p]? = some i ∧ (ab_srt L mk)[i]? = some x := by
  unfold ab_lst at h
  rw [List.getElem?_map] at h
  cases hi : (ab_mid 0 (ab_srt L mk).length)[p]? with
  | none => rw [hi] at h; cases h
  | some i =>
    rw [hi] at h
    have hlt := (ab_mid_lt hi).2
    refine ⟨i, rfl, ?_⟩
    have hx : (ab_srt L mk).getD i 0 = x := Option.some.inj h
    rw [List.getD_eq_getElem?_getD, List.getElem?_eq_getElem hlt] at hx
    rw [List.getElem?_eq_getElem hlt]
    exact congrArg some hx
theorem ab_lst_mem {x : Int} (h : x ∈ ab_lst L mk) : x ∈ L ∧ mk x = 0 := by
  obtain ⟨p, hp⟩ := List.getElem?_of_mem h
  obtain ⟨i, _, hi⟩ := ab_lst_at hp
  exact ab_pre_mem _ (List.mem_of_getElem? hi)
/-- the class' place in the list -/
theorem sp_X1_placeInList {n i : Nat} (hn : n ≤ 120) (hi : i < n) {Q : Int → Prop} (hQ : ∀ p : Nat, (ab_mid 0 n)[p]? = some i → Q (p : Int)) : wp_X1_placeInList (i : Int) (n : Int) Q := by
  have main : ∀ (m a b pl lv : Nat), b - a ≤ m → a ≤ i → i < b → b ≤ n → (b - a) + lv ≤ n → pl ≤ n → (∀ p, (ab_mid a b)[p]? = some i → (ab_mid 0 n)[pl + p]? = some i) → lq4 (wp_X1_placeInList_10 (i : Int) Q) (m + 1) (a : Int) (b : Int) (pl : Int) (lv : Int) := by
    intro m
    induction m with
    | zero => intro a b pl lv h1 h2 h3; omega
    | succ m ih =>
      intro a b pl lv h1 h2 h3 h4 h5 h6 hp
      show wp_X1_placeInList_10 (i : Int) Q (lq4 (wp_X1_placeInList_10 (i : Int) Q) (m + 1)) (a : Int) (b : Int) (pl : Int) (lv : Int)
      generalize lq4 (wp_X1_placeInList_10 (i : Int) Q) (m + 1) = K at ih ⊢
      have em : (a : Int) + ((b : Int) - (a : Int)) / 2 = ((a + (b - a) / 2 : Nat) : Int) := by omega
      have hc := ab_mid_cons (a := a) (b := b) (by omega)
      unfold wp_X1_placeInList_10
      rw [em]
      refine ⟨by omega, fun h => absurd h (by omega), fun _ => ⟨by omega, by omega, by omega, fun h => ⟨by omega, by omega, fun h7 => ?_, fun h7 => ?_⟩, fun h => ?_⟩⟩
      · have hlt : a + (b - a) / 2 < i := by omega
        have hpl : pl + (a + (b - a) / 2 - a + 1) ≤ n := by
          have hl : (ab_mid a b).length = b - a := ab_mid_len a b
          have hmem : i ∈ ab_mid a b := (ab_mid_perm _ a b (Nat.le_refl _)).mem_iff.mpr (by rw [List.mem_range'_1]; omega)
          have hmem2 : i ∈ ab_mid (a + (b - a) / 2 + 1) b := (ab_mid_perm _ _ b (Nat.le_refl _)).mem_iff.mpr (by rw [List.mem_range'_1]; omega)
          obtain ⟨p2, hp2⟩ := List.getElem?_of_mem hmem2
          have h8 : (ab_mid a b)[1 + (ab_mid a (a + (b - a) / 2)).length + p2]? = some i := by
            rw [hc, show 1 + (ab_mid a (a + (b - a) / 2)).length + p2 = ((ab_mid a (a + (b - a) / 2)).length + p2) + 1 by omega, List.getElem?_cons_succ, List.getElem?_append_right (by omega), Nat.add_sub_cancel_left]
            exact hp2
          have h9 := hp _ h8
          have h10 := (List.getElem?_eq_some_iff.mp h9).1
          rw [ab_mid_len, ab_mid_len] at h10
          omega
        have := ih (a + (b - a) / 2 + 1) b (pl + (a + (b - a) / 2 - a + 1)) (lv + 1) (by omega) (by omega) h3 h4 (by omega) hpl (fun p hp2 => by
          have h8 : (ab_mid a b)[1 + (ab_mid a (a + (b - a) / 2)).length + p]? = some i := by
            rw [hc, show 1 + (ab_mid a (a + (b - a) / 2)).length + p = ((ab_mid a (a + (b - a) / 2)).length + p) + 1 by omega, List.getElem?_cons_succ, List.getElem?_append_right (by omega), Nat.add_sub_cancel_left]
            exact hp2
          have h9 := hp _ h8
          rw [ab_mid_len] at h9
          rw [show pl + (a + (b - a) / 2 - a + 1) + p = pl + (1 + (a + (b - a) / 2 - a) + p) by omega]
          exact h9)
        rw [show (pl : Int) + ((((a + (b - a) / 2 : Nat) : Int) - (a : Int)) + 1) = ((pl + (a + (b - a) / 2 - a + 1) : Nat) : Int) by omega]
        have e1 : ((a + (b - a) / 2 : Nat) : Int) + 1 = ((a + (b - a) / 2 + 1 : Nat) : Int) := by omega
        have e2 : (lv : Int) + 1 = ((lv + 1 : Nat) : Int) := by omega
        rw [e1, e2]
        exact this
      · have := ih a (a + (b - a) / 2) (pl + 1) (lv + 1) (by omega) h2 (by omega) (by omega) (by omega) (by
          have hmem2 : i ∈ ab_mid a (a + (b - a) / 2) := (ab_mid_perm _ a _ (Nat.le_refl _)).mem_iff.mpr (by rw [List.mem_range'_1]; omega)
          obtain ⟨p2, hp2⟩ := List.getElem?_of_mem hmem2
          have h8 : (ab_mid a b)[p2 + 1]? = some i := by
            rw [hc, List.getElem?_cons_succ, List.getElem?_append_left (List.getElem?_eq_some_iff.mp hp2).1]
            exact hp2
          have h10 := (List.getElem?_eq_some_iff.mp (hp _ h8)).1
          rw [ab_mid_len] at h10
          omega) (fun p hp2 => by
          have h8 : (ab_mid a b)[p + 1]? = some i := by
            rw [hc, List.getElem?_cons_succ, List.getElem?_append_left (List.getElem?_eq_some_iff.mp hp2).1]
            exact hp2
          rw [show pl + 1 + p = pl + (p + 1) by omega]
          exact hp _ h8)
        push_cast at this ⊢
        exact this
      · have e : i = a + (b - a) / 2 := by omega
        refine hQ pl ?_
        have := hp 0 (by rw [hc]; simp [e])
        simpa using this
  unfold wp_X1_placeInList
  exact ⟨_, main n 0 n 0 0 (by omega) (Nat.zero_le _) hi (Nat.le_refl _) (by omega) (Nat.zero_le _) (fun p hp => by rw [Nat.zero_add]; exact hp)⟩
theorem sp_X1_start (hg : ab_g L mk) {aP : Nat → Int} (hp : ab_prs L mk aP) {nl nc nw ru ns : Int} {li : Nat → Int} {Q : Int → Int → Int → Int → Int → (Nat → Int) → Prop}
    (hQ : ∀ li2, ab_ar li2 (ab_lst L mk) → Q ((ab_lst L mk).length : Int) 0 0 1 0 li2) : wp_X1_start nl nc nw ru ns li aP (ab_np L mk) Q := by
  have hsl := ab_srt_len hg
  have hl := hg.2.2.1
  have hnp := ab_np_le L mk
  have main : ∀ (m q : Nat) (li : Nat → Int), q + m = 500 → (∀ (i : Nat) (x : Int), (ab_pre L mk q)[i]? = some x → ∀ p, (ab_mid 0 (ab_srt L mk).length)[p]? = some i → li p = x) → lq3 (wp_X1_start_19 (ab_np L mk) 0 0 1 0 aP (ab_np L mk) Q) (m + 1) li ((ab_pre L mk q).length : Int) (q : Int) := by
    intro m
    induction m with
    | zero =>
      intro q li hq hli
      have hq5 : q = 500 := by omega
      subst hq5
      show wp_X1_start_19 (ab_np L mk) 0 0 1 0 aP (ab_np L mk) Q (lq3 (wp_X1_start_19 (ab_np L mk) 0 0 1 0 aP (ab_np L mk) Q) 0) li ((ab_pre L mk 500).length : Int) ((500 : Nat) : Int)
      unfold wp_X1_start_19
      refine ⟨by omega, fun _ => ?_, fun h => absurd (by omega) h⟩
      have := hQ li (fun p x hx => by
        obtain ⟨i, h1, h2⟩ := ab_lst_at hx
        exact hli i x h2 p h1)
      rw [ab_lst_len, hsl] at this
      exact this
    | succ m ih =>
      intro q li hq hli
      show wp_X1_start_19 (ab_np L mk) 0 0 1 0 aP (ab_np L mk) Q (lq3 (wp_X1_start_19 (ab_np L mk) 0 0 1 0 aP (ab_np L mk) Q) (m + 1)) li ((ab_pre L mk q).length : Int) (q : Int)
      generalize lq3 (wp_X1_start_19 (ab_np L mk) 0 0 1 0 aP (ab_np L mk) Q) (m + 1) = K at ih ⊢
      have ha := hp q (by omega)
      have hpl := ab_pre_len hg q
      have hpl1 := ab_pre_len hg (q + 1)
      have hrs := ab_rank_s L mk (q : Int) hg.1
      have hmono := ab_rank_mono L mk hg.1 ((q : Int) + 1) (499 - q)
      rw [show (q : Int) + 1 + ((499 - q : Nat) : Int) = 500 by omega, ab_rank_500 hg] at hmono
      unfold wp_X1_start_19
      simp only [Int.toNat_natCast, ha]
      refine ⟨by omega, fun h => absurd h (by omega), fun _ => ⟨by omega, by split <;> decide, fun h => ?_, fun h => ⟨by omega, by omega, fun h2 => ?_, fun h2 => ?_⟩⟩⟩
      · have hno : ¬ ((q : Int) ∈ L ∧ mk (q : Int) = 0) := fun hh => by rw [if_pos hh] at h; exact absurd h (by decide)
        have e : ab_pre L mk (q + 1) = ab_pre L mk q := by
          conv => lhs; unfold ab_pre
          rw [if_neg hno, List.append_nil]
        have := ih (q + 1) li (by omega) (by rw [e]; exact hli)
        rw [e] at this
        push_cast at this
        exact this
      · have hyes : (q : Int) ∈ L ∧ mk (q : Int) = 0 := by
          by_cases hh : (q : Int) ∈ L ∧ mk (q : Int) = 0
          · exact hh
          · rw [if_neg hh] at h; exact absurd rfl h
        rw [if_pos hyes] at hrs
        omega
      · have hyes : (q : Int) ∈ L ∧ mk (q : Int) = 0 := by
          by_cases hh : (q : Int) ∈ L ∧ mk (q : Int) = 0
          · exact hh
          · rw [if_neg hh] at h; exact absurd rfl h
        have e : ab_pre L mk (q + 1) = ab_pre L mk q ++ [(q : Int)] := by
          conv => lhs; unfold ab_pre
          rw [if_pos hyes]
        rw [← hsl]
        refine sp_X1_placeInList (by omega) (by omega) (fun p hpp => ?_)
        have hplt := (List.getElem?_eq_some_iff.mp hpp).1
        rw [ab_mid_len] at hplt
        have := ih (q + 1) (uI li p (q : Int)) (by omega) (by
          rw [e]
          intro i x hx p2 hp2
          unfold uI
          by_cases hi : i < (ab_pre L mk q).length
          · rw [List.getElem?_append_left hi] at hx
            rw [if_neg (fun e9 => by rw [e9] at hp2; rw [hpp] at hp2; have := Option.some.inj hp2; omega)]
            exact hli i x hx p2 hp2
          · rw [List.getElem?_append_right (by omega)] at hx
            have hlt2 := (List.getElem?_eq_some_iff.mp hx).1
            simp at hlt2
            have ei2 : i = (ab_pre L mk q).length := by omega
            subst ei2
            have hxx : (q : Int) = x := by simpa using hx
            have : p2 = p := (List.getElem?_inj (List.getElem?_eq_some_iff.mp hp2).1 (ab_mid_nd _ _)).mp (hp2.trans hpp.symm)
            rw [if_pos this]
            exact hxx)
        rw [e, List.length_append, List.length_singleton] at this
        push_cast at this
        simp only [Int.toNat_natCast]
        exact ⟨by omega, this⟩
  unfold wp_X1_start wp_X1_stop
  exact ⟨_, main 500 0 li rfl (fun i x hx => by simp [ab_pre] at hx)⟩
end PH
/-! keys in just one of both trees -/
def ab_both (L : List Int) (mk : Int → Int) (mk2 : Int → Int) : Int → Int := fun y => if mk2 y = 0 ∧ (y ∈ L ∧ mk y = 0) then 0 else 1
def ab_alone (L : List Int) (mk : Int → Int) (L2 : List Int) (mk2 : Int → Int) : Int := ab_np L mk + ab_np L2 mk2 - 2 * ab_np L2 (ab_both L mk mk2)
theorem ab_g_both {L : List Int} {mk : Int → Int} {L2 : List Int} {mk2 : Int → Int} (hg : ab_g L2 mk2) : ab_g L2 (ab_both L mk mk2) := ⟨hg.1, hg.2.1, hg.2.2.1, fun x => by unfold ab_both; split <;> simp⟩
theorem ab_both_c {L : List Int} {mk : Int → Int} {L2 : List Int} {mk2 : Int → Int} : L2.countP (fun y => decide (mk2 y = 0 ∧ (y ∈ L ∧ mk y = 0))) = L2.countP (fun y => decide (ab_both L mk mk2 y = 0)) := by
  refine List.countP_congr (fun y _ => ?_)
  unfold ab_both
  by_cases h : mk2 y = 0 ∧ (y ∈ L ∧ mk y = 0)
  · simp only [if_pos h, decide_eq_true h]; simp
  · simp only [if_neg h, decide_eq_false h]; simp
