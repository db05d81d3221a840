/-! the state: the tree, the second tree, (list, copied, queue, running), settings, counts -/
abbrev aT := List Int × (Int → Int)
abbrev aS := aT × aT × (List Int × Nat × List Int × Int) × (Nat → Int) × (Nat → Int)
abbrev as_T (A : aS) : aT := A.1
abbrev as_U (A : aS) : aT := A.2.1
abbrev as_L (A : aS) : List Int := A.2.2.1.1
abbrev as_C (A : aS) : Nat := A.2.2.1.2.1
abbrev as_Q (A : aS) : List Int := A.2.2.1.2.2.1
abbrev as_R (A : aS) : Int := A.2.2.1.2.2.2
abbrev as_E (A : aS) : Nat → Int := A.2.2.2.1
abbrev as_N (A : aS) : Nat → Int := A.2.2.2.2
def ab_CJ (nl nc nw ru ns : Int) (ks ds ms li qu : Nat → Int) (A : aS) : Prop := ab_cT ns ks ds ms (as_U A).1 (as_U A).2 ∧ nl = ((as_L A).length : Int) ∧ nc = (as_C A : Int) ∧ nw = ((as_Q A).length : Int) ∧ ru = as_R A ∧ ab_ar li (as_L A) ∧ ab_ar qu (as_Q A)
def ab_CS (n : Int) (k d m : Nat → Int) (nl nc nw ru ns : Int) (ks ds ms li qu se co : Nat → Int) (A : aS) : Prop := ab_cT n k d m (as_T A).1 (as_T A).2 ∧ ab_CJ nl nc nw ru ns ks ds ms li qu A ∧ (∀ i, i < 3 → se i = as_E A i) ∧ (∀ i, i < 7 → co i = as_N A i)
def ab_MS (z : Nat → Int) (A : aS) : Prop := ab_mT z 0 (as_T A).1 (as_T A).2 ∧ ab_mT z 241 (as_U A).1 (as_U A).2 ∧ (z 483 = ((as_L A).length : Int) ∧ z 484 = (as_C A : Int) ∧ z 485 = ((as_Q A).length : Int) ∧ z 482 = as_R A) ∧
  ((∀ (p : Nat) (x : Int), (as_L A)[p]? = some x → z (486 + p) = x) ∧ (∀ (p : Nat) (x : Int), (as_Q A)[p]? = some x → z (606 + p) = x)) ∧ (∀ i, i < 3 → z (636 + i) = as_E A i) ∧ (∀ i, i < 7 → z (639 + i) = as_N A i)
/-- what holds of every state that comes up; b: how many exchanges at most -/
def ab_I (b : Int) (A : aS) : Prop := ab_g (as_T A).1 (as_T A).2 ∧ ab_g (as_U A).1 (as_U A).2 ∧ (as_C A ≤ (as_L A).length ∧ (as_L A).length ≤ 120 ∧ (as_Q A).length ≤ 30 ∧ (as_R A = 0 ∨ as_R A = 1)) ∧
  (as_R A = 0 → (as_U A).1 = [] ∧ as_L A = [] ∧ as_C A = 0 ∧ as_Q A = []) ∧
  ((∀ x ∈ (as_U A).1, x ∈ (as_T A).1) ∧ (∀ x ∈ as_L A, x ∈ (as_T A).1) ∧ (∀ a ∈ as_Q A, (0 ≤ a ∧ a < 1000) ∧ a % 500 ∈ (as_T A).1)) ∧
  ((10 ≤ as_E A 0 ∧ as_E A 0 ≤ 100) ∧ (3 ≤ as_E A 1 ∧ as_E A 1 ≤ 40) ∧ (1 ≤ as_E A 2 ∧ as_E A 2 ≤ 8)) ∧
  ((0 ≤ as_N A 0 ∧ as_N A 0 ≤ 2000) ∧ (0 ≤ as_N A 1 ∧ as_N A 1 ≤ 2000) ∧ (0 ≤ as_N A 5 ∧ as_N A 5 ≤ b))
theorem ab_I.mono {b b2 : Int} {A : aS} (h : ab_I b A) (hb : b ≤ b2) : ab_I b2 A := by
  obtain ⟨h1, h2, h3, h4, h5, h6, h7, h8, h9⟩ := h
  exact ⟨h1, h2, h3, h4, h5, h6, h7, h8, h9.1, by omega⟩
/-! what acts and steps do -/
def ab_tput (T : aT) (key : Int) : aT := (ab_put T.1 key, uM T.2 key 0)
def ab_tmark (T : aT) (key : Int) : aT := (T.1, if key ∈ T.1 then uM T.2 key 1 else T.2)
def ab_tact (T : aT) (a : Int) : aT := if a < 500 then ab_tput T a else ab_tmark T (a - 500)
abbrev ab_pres (T : aT) (key : Int) : Prop := key ∈ T.1 ∧ T.2 key = 0
def ab_chg (T : aT) (a : Int) : Prop := if a < 500 then ¬ ab_pres T a else ab_pres T (a - 500)
abbrev ab_e0 : aT := ([], fun _ => 0)
def ab_end (A : aS) : aS := (as_T A, ab_e0, ([], 0, [], 0), as_E A, as_N A)
def ab_abn (A : aS) : aS := (as_T A, ab_e0, ([], 0, [], 0), as_E A, uI (as_N A) 6 (as_N A 6 + 1))
def ab_exc (A : aS) : aS := (as_U A, ab_e0, ([], 0, [], 0), as_E A, uI (as_N A) 5 (as_N A 5 + 1))
def ab_beg (A : aS) : aS := (as_T A, ab_e0, (ab_lst (as_T A).1 (as_T A).2, 0, [], 1), as_E A, uI (as_N A) 4 (as_N A 4 + 1))
def ab_tk (A : aS) : Int × aS :=
  if as_C A < (as_L A).length then (1, (as_T A, ab_tput (as_U A) ((as_L A).getD (as_C A) 0), (as_L A, as_C A + 1, as_Q A, as_R A), as_E A, as_N A))
  else match as_Q A with
    | [] => (0, A)
    | a :: q => (ab_dep (as_U A).1 (a % 500), (as_T A, ab_tact (as_U A) a, (as_L A, as_C A, q, as_R A), as_E A, as_N A))
def ab_st (A : aS) : Int × aS := if as_C (ab_tk A).2 = (as_L (ab_tk A).2).length ∧ as_Q (ab_tk A).2 = [] then ((ab_tk A).1, ab_exc (ab_tk A).2) else ab_tk A
def ab_adv : Nat → Int → aS → Int × aS
  | 0, w, A => (w, A)
  | n + 1, w, A => if as_R A = 1 then ab_adv n (w + (ab_st A).1) (ab_st A).2 else (w, A)
def ab_need (A : aS) : Prop := 100 * (((as_T A).1.length : Int) - ab_np (as_T A).1 (as_T A).2) > as_E A 0 * ((as_T A).1.length : Int) ∨ ab_dmax (as_T A).1 > as_E A 1
theorem ab_need_dec (A : aS) : ab_need A ∨ ¬ ab_need A := Classical.em _
noncomputable def ab_beg1 (A : aS) : aS := @ite _ (as_R A = 0 ∧ ab_need A) (Classical.propDecidable _) (ab_beg A) A
def ab_cnta (A : aS) (w : Int) : aS := (as_T A, as_U A, (as_L A, as_C A, as_Q A, as_R A), as_E A, fun i => if i = 0 then w else if i = 1 then max (as_N A 1) w else if i = 2 then as_N A 2 + w else if i = 3 then as_N A 3 + 1 else as_N A i)
noncomputable def ab_fin (A : aS) (w : Int) : aS := ab_cnta (ab_beg1 A) w
def ab_q (A : aS) (a : Int) : aS := if (as_Q A).length = 30 then ab_abn A else (as_T A, as_U A, (as_L A, as_C A, as_Q A ++ [a], as_R A), as_E A, as_N A)
def ab_p1 (A : aS) (a : Int) : aS := (ab_tact (as_T A) a, as_U A, (as_L A, as_C A, as_Q A, as_R A), as_E A, as_N A)
noncomputable def ab_p2 (A : aS) (a : Int) : aS := @ite _ (as_R A = 1 ∧ ab_chg (as_T A) a) (Classical.propDecidable _) (ab_q (ab_p1 A a) a) (ab_p1 A a)
noncomputable def ab_act (A : aS) (a : Int) : Int × aS := if a = -1 then ((ab_adv (as_E A 2).toNat 0 A).1, ab_fin (ab_adv (as_E A 2).toNat 0 A).2 (ab_adv (as_E A 2).toNat 0 A).1)
  else ((ab_adv (as_E A 2).toNat (ab_dep (as_T A).1 (a % 500)) (ab_p2 A a)).1, ab_fin (ab_adv (as_E A 2).toNat (ab_dep (as_T A).1 (a % 500)) (ab_p2 A a)).2 (ab_adv (as_E A 2).toNat (ab_dep (as_T A).1 (a % 500)) (ab_p2 A a)).1)
/-- an act that may be made -/
def ab_ok (T : aT) (a : Int) : Prop := a = -1 ∨ (0 ≤ a ∧ a < 500 ∧ (a ∈ T.1 ∨ T.1.length < 120)) ∨ (500 ≤ a ∧ a < 1000)
theorem ab_g_e0 : ab_g ([] : List Int) (fun _ => 0) := ⟨List.nodup_nil, fun y hy => absurd hy List.not_mem_nil, Nat.zero_le _, fun _ => Or.inl rfl⟩
theorem ab_put_mem {L : List Int} {key x : Int} : x ∈ ab_put L key ↔ x ∈ L ∨ x = key := by
  unfold ab_put
  split
  · rename_i h
    exact ⟨Or.inl, fun q => q.elim id (fun e => e ▸ h)⟩
  · simp
theorem ab_tact_g {T : aT} (hg : ab_g T.1 T.2) {a : Int} (ha : 0 ≤ a ∧ a < 1000) (hok : a % 500 ∈ T.1 ∨ T.1.length < 120 ∨ 500 ≤ a) : ab_g (ab_tact T a).1 (ab_tact T a).2 := by
  unfold ab_tact
  split
  · have e : a % 500 = a := by omega
    rw [e] at hok
    exact ab_g_put hg (by omega) (hok.imp id (fun h => h.resolve_right (by omega)))
  · unfold ab_tmark
    show ab_g T.1 (if a - 500 ∈ T.1 then uM T.2 (a - 500) 1 else T.2)
    split
    · exact ab_g_uM hg (Or.inr rfl)
    · exact hg
theorem ab_tact_mem {T : aT} {a x : Int} (ha : 0 ≤ a ∧ a < 1000) (h : x ∈ (ab_tact T a).1) : x ∈ T.1 ∨ x = a % 500 := by
  unfold ab_tact at h
  split at h
  · have e : a % 500 = a := by omega
    rw [e]
    exact ab_put_mem.mp h
  · exact Or.inl h
theorem ab_tact_sub {T : aT} {a x : Int} (h : x ∈ T.1) : x ∈ (ab_tact T a).1 := by
  unfold ab_tact
  split
  · exact ab_put_mem.mpr (Or.inl h)
  · exact h
/-- room in the second tree -/
theorem ab_room {A : aS} {b : Int} (h : ab_I b A) {key : Int} (hk : key ∈ (as_T A).1) : key ∈ (as_U A).1 ∨ (as_U A).1.length < 120 := by
  by_cases hm : key ∈ (as_U A).1
  · exact Or.inl hm
  · right
    have hn : ((as_U A).1 ++ [key]).Nodup := by
      rw [List.nodup_append]
      refine ⟨h.2.1.1, by simp, ?_⟩
      intro a ha b hb e
      have : b = key := by simpa using hb
      exact hm (by rw [← this, ← e]; exact ha)
    have hle := List.Nodup.length_le_of_subset hn (l₂ := (as_T A).1) (fun x hx => by
      rcases List.mem_append.mp hx with hx | hx
      · exact h.2.2.2.2.1.1 x hx
      · have : x = key := by simpa using hx
        rw [this]; exact hk)
    have := h.1.2.2.1
    simp at hle
    omega
theorem ab_I_exc {A : aS} {b : Int} (h : ab_I b A) : ab_I (b + 1) (ab_exc A) := by
  obtain ⟨h1, h2, h3, h4, h5, h6, h7, h8, h9⟩ := h
  refine ⟨h2, ab_g_e0, ⟨Nat.le_refl _, Nat.zero_le _, Nat.zero_le _, Or.inl rfl⟩, fun _ => ⟨rfl, rfl, rfl, rfl⟩, ⟨fun x hx => absurd hx List.not_mem_nil, fun x hx => absurd hx List.not_mem_nil, fun x hx => absurd hx List.not_mem_nil⟩, h6, h7, h8, ?_⟩
  show (0 ≤ uI (as_N A) 5 (as_N A 5 + 1) 5 ∧ uI (as_N A) 5 (as_N A 5 + 1) 5 ≤ b + 1)
  unfold uI
  rw [if_pos rfl]
  omega
theorem ab_I_abn {A : aS} {b : Int} (h : ab_I b A) : ab_I b (ab_abn A) := by
  obtain ⟨h1, h2, h3, h4, h5, h6, h7, h8, h9⟩ := h
  exact ⟨h1, ab_g_e0, ⟨Nat.le_refl _, Nat.zero_le _, Nat.zero_le _, Or.inl rfl⟩, fun _ => ⟨rfl, rfl, rfl, rfl⟩, ⟨fun x hx => absurd hx List.not_mem_nil, fun x hx => absurd hx List.not_mem_nil, fun x hx => absurd hx List.not_mem_nil⟩, h6, h7, h8, h9⟩
theorem ab_lst_le {L : List Int} {mk : Int → Int} (hg : ab_g L mk) : (ab_lst L mk).length ≤ 120 := by
  have h1 := ab_srt_len hg
  have h2 := ab_np_le L mk
  have h3 := hg.2.2.1
  rw [ab_lst_len]
  omega
theorem ab_I_beg {A : aS} {b : Int} (h : ab_I b A) : ab_I b (ab_beg A) := by
  obtain ⟨h1, h2, h3, h4, h5, h6, h7, h8, h9⟩ := h
  have hmem : ∀ x ∈ ab_lst (as_T A).1 (as_T A).2, x ∈ (as_T A).1 := fun x hx => (ab_lst_mem hx).1
  have hle := ab_lst_le h1
  unfold ab_beg
  generalize ab_lst (as_T A).1 (as_T A).2 = l9 at hle hmem ⊢
  exact ⟨h1, ab_g_e0, ⟨Nat.zero_le _, hle, Nat.zero_le _, Or.inr rfl⟩, fun q => absurd (show (1 : Int) = 0 from q) (by decide), ⟨fun x hx => absurd hx List.not_mem_nil, fun x hx => hmem x hx, fun x hx => absurd hx List.not_mem_nil⟩, h6, h7, h8, h9⟩
theorem ab_getD {l : List Int} {i : Nat} (h : i < l.length) : l[i]? = some (l.getD i 0) := by
  rw [List.getD_eq_getElem?_getD, List.getElem?_eq_getElem h]
  rfl
/-- a step but the exchange -/
theorem ab_I_tk {A : aS} {b : Int} (h : ab_I b A) (hr : as_R A = 1) : ab_I b (ab_tk A).2 ∧ as_R (ab_tk A).2 = 1 ∧ (0 ≤ (ab_tk A).1 ∧ (ab_tk A).1 ≤ 120) ∧ as_E (ab_tk A).2 = as_E A ∧ as_N (ab_tk A).2 = as_N A ∧ as_T (ab_tk A).2 = as_T A := by
  have hroom := fun key hk => ab_room h (key := key) hk
  obtain ⟨h1, h2, h3, h4, h5, h6, h7, h8, h9⟩ := h
  unfold ab_tk
  by_cases hc : as_C A < (as_L A).length
  · rw [if_pos hc]
    have hm : (as_L A).getD (as_C A) 0 ∈ (as_T A).1 := h5.2.1 _ (List.mem_of_getElem? (ab_getD hc))
    have hk := h1.2.1 _ hm
    refine ⟨⟨h1, ab_g_put h2 (by omega) (hroom _ hm), ⟨?_, h3.2.1, h3.2.2.1, h3.2.2.2⟩, fun q => ?_, ⟨fun x hx => ?_, h5.2.1, h5.2.2⟩, h6, h7, h8, h9⟩, hr, ⟨show (0 : Int) ≤ 1 by decide, show (1 : Int) ≤ 120 by decide⟩, rfl, rfl, rfl⟩
    · show as_C A + 1 ≤ (as_L A).length
      omega
    · have q2 : as_R A = 0 := q
      omega
    · rcases ab_put_mem.mp hx with hx | hx
      · exact h5.1 x hx
      · rw [hx]; exact hm
  · rw [if_neg hc]
    cases hq : as_Q A with
    | nil =>
      exact ⟨⟨h1, h2, h3, h4, h5, h6, h7, h8, h9⟩, hr, ⟨show (0 : Int) ≤ 0 by decide, show (0 : Int) ≤ 120 by decide⟩, rfl, rfl, rfl⟩
    | cons a q =>
      have ha := h5.2.2 a (by rw [hq]; exact List.mem_cons_self)
      have hd := ab_dep_le h2 (a % 500)
      refine ⟨⟨h1, ab_tact_g h2 ha.1 ((hroom _ ha.2).imp id Or.inl), ⟨h3.1, h3.2.1, ?_, h3.2.2.2⟩, fun q => ?_, ⟨fun x hx => ?_, h5.2.1, fun x hx => h5.2.2 x (by rw [hq]; exact List.mem_cons_of_mem _ hx)⟩, h6, h7, h8, h9⟩, hr, hd, rfl, rfl, rfl⟩
      · have := h3.2.2.1
        rw [hq, List.length_cons] at this
        show q.length ≤ 30
        omega
      · have q2 : as_R A = 0 := q
        omega
      · rcases ab_tact_mem ha.1 hx with hx | hx
        · exact h5.1 x hx
        · rw [hx]; exact ha.2
theorem ab_I_st {A : aS} {b : Int} (h : ab_I b A) (hr : as_R A = 1) : ab_I (b + 1) (ab_st A).2 ∧ (0 ≤ (ab_st A).1 ∧ (ab_st A).1 ≤ 120) ∧ as_E (ab_st A).2 = as_E A ∧ (as_N (ab_st A).2 0 = as_N A 0 ∧ as_N (ab_st A).2 1 = as_N A 1) := by
  obtain ⟨i1, i2, i3, i4, i5, i6⟩ := ab_I_tk h hr
  unfold ab_st
  split
  · refine ⟨ab_I_exc i1, i3, i4, ?_, ?_⟩
    · show uI (as_N (ab_tk A).2) 5 (as_N (ab_tk A).2 5 + 1) 0 = as_N A 0
      rw [i5]; rfl
    · show uI (as_N (ab_tk A).2) 5 (as_N (ab_tk A).2 5 + 1) 1 = as_N A 1
      rw [i5]; rfl
  · exact ⟨i1.mono (by omega), i3, i4, by rw [i5], by rw [i5]⟩
theorem ab_I_adv : ∀ (n : Nat) (w : Int) (A : aS) (b : Int), ab_I b A → ab_I (b + (n : Int)) (ab_adv n w A).2 ∧ (w ≤ (ab_adv n w A).1 ∧ (ab_adv n w A).1 ≤ w + 120 * (n : Int)) ∧ as_E (ab_adv n w A).2 = as_E A := by
  intro n
  induction n with
  | zero => intro w A b h; exact ⟨h.mono (by omega), ⟨Int.le_refl _, by simp [ab_adv]⟩, rfl⟩
  | succ n ih =>
    intro w A b h
    unfold ab_adv
    by_cases hr : as_R A = 1
    · rw [if_pos hr]
      obtain ⟨i1, i2, i3, i4⟩ := ab_I_st h hr
      obtain ⟨j1, j2, j3⟩ := ih (w + (ab_st A).1) (ab_st A).2 (b + 1) i1
      refine ⟨j1.mono (by omega), by omega, j3.trans i3⟩
    · rw [if_neg hr]
      exact ⟨h.mono (by omega), by omega, rfl⟩
theorem ab_I_cnta {A : aS} {b w : Int} (h : ab_I b A) (hw : 0 ≤ w ∧ w ≤ 2000) : ab_I b (ab_cnta A w) := by
  obtain ⟨h1, h2, h3, h4, h5, h6, h7, h8, h9⟩ := h
  refine ⟨h1, h2, h3, h4, h5, h6, ?_, ?_, ?_⟩
  · show 0 ≤ w ∧ w ≤ 2000
    exact hw
  · show 0 ≤ max (as_N A 1) w ∧ max (as_N A 1) w ≤ 2000
    omega
  · exact h9
theorem ab_I_beg1 {A : aS} {b : Int} (h : ab_I b A) : ab_I b (ab_beg1 A) := by
  unfold ab_beg1
  split
  · exact ab_I_beg h
  · exact h
theorem ab_I_q {A : aS} {b a : Int} (h : ab_I b A) (hr : as_R A = 1) (ha : 0 ≤ a ∧ a < 1000) (hm : a % 500 ∈ (as_T A).1) : ab_I b (ab_q A a) := by
  unfold ab_q
  split
  · exact ab_I_abn h
  · rename_i hl
    obtain ⟨h1, h2, h3, h4, h5, h6, h7, h8, h9⟩ := h
    refine ⟨h1, h2, ⟨h3.1, h3.2.1, ?_, h3.2.2.2⟩, fun q => ?_, ⟨h5.1, h5.2.1, fun x hx => ?_⟩, h6, h7, h8, h9⟩
    · show (as_Q A ++ [a]).length ≤ 30
      simp
      omega
    · have q2 : as_R A = 0 := q
      omega
    · rcases List.mem_append.mp hx with hx | hx
      · exact h5.2.2 x hx
      · have : x = a := by simpa using hx
        rw [this]; exact ⟨ha, hm⟩
theorem ab_ok_g {A : aS} {b a : Int} (h : ab_I b A) (hok : ab_ok (as_T A) a) (ha : a ≠ -1) : (0 ≤ a ∧ a < 1000) ∧ ab_I b (ab_p1 A a) := by
  obtain ⟨h1, h2, h3, h4, h5, h6, h7, h8, h9⟩ := h
  have hr : 0 ≤ a ∧ a < 1000 := by
    rcases hok with q | q | q
    · exact absurd q ha
    · omega
    · omega
  refine ⟨hr, ab_tact_g h1 hr ?_, h2, h3, h4, ⟨fun x hx => ab_tact_sub (h5.1 x hx), fun x hx => ab_tact_sub (h5.2.1 x hx), fun x hx => ⟨(h5.2.2 x hx).1, ab_tact_sub (h5.2.2 x hx).2⟩⟩, h6, h7, h8, h9⟩
  rcases hok with q | q | q
  · exact absurd q ha
  · have e : a % 500 = a := by omega
    rw [e]
    exact q.2.2.imp id Or.inl
  · exact Or.inr (Or.inr q.1)
/-- a changed key has a node afterwards -/
theorem ab_chg_mem {T : aT} {a : Int} (ha : 0 ≤ a ∧ a < 1000) (hc : ab_chg T a) : a % 500 ∈ (ab_tact T a).1 := by
  unfold ab_chg at hc
  unfold ab_tact
  by_cases h : a < 500
  · rw [if_pos h]
    rw [show a % 500 = a by omega]
    exact ab_put_mem.mpr (Or.inr rfl)
  · rw [if_neg h] at hc ⊢
    rw [show a % 500 = a - 500 by omega]
    exact hc.1
theorem ab_I_p2 {A : aS} {b a : Int} (h : ab_I b A) (hok : ab_ok (as_T A) a) (ha : a ≠ -1) : ab_I b (ab_p2 A a) := by
  obtain ⟨hr, h1⟩ := ab_ok_g h hok ha
  unfold ab_p2
  split
  · rename_i hc
    exact ab_I_q h1 hc.1 hr (ab_chg_mem hr hc.2)
  · exact h1
theorem ab_p2_E (A : aS) (a : Int) : as_E (ab_p2 A a) = as_E A := by
  unfold ab_p2
  split
  · unfold ab_q
    split <;> rfl
  · rfl
theorem ab_beg1_E (A : aS) : as_E (ab_beg1 A) = as_E A := by
  unfold ab_beg1
  split <;> rfl
theorem ab_I_act {A : aS} {b a : Int} (h : ab_I b A) (hok : ab_ok (as_T A) a) : ab_I (b + 8) (ab_act A a).2 ∧ (0 ≤ (ab_act A a).1 ∧ (ab_act A a).1 ≤ 1080) ∧ as_E (ab_act A a).2 = as_E A := by
  have hE := h.2.2.2.2.2.1.2.2
  unfold ab_act
  by_cases ha : a = -1
  · rw [if_pos ha]
    obtain ⟨j1, j2, j3⟩ := ab_I_adv (as_E A 2).toNat 0 A b h
    refine ⟨ab_I_cnta (ab_I_beg1 (j1.mono (by omega))) (by omega), by show 0 ≤ (ab_adv (as_E A 2).toNat 0 A).1 ∧ (ab_adv (as_E A 2).toNat 0 A).1 ≤ 1080; omega, ?_⟩
    exact (ab_beg1_E _).trans j3
  · rw [if_neg ha]
    have hd := ab_dep_le h.1 (a % 500)
    obtain ⟨j1, j2, j3⟩ := ab_I_adv (as_E A 2).toNat (ab_dep (as_T A).1 (a % 500)) (ab_p2 A a) b (ab_I_p2 h hok ha)
    refine ⟨ab_I_cnta (ab_I_beg1 (j1.mono (by omega))) (by omega), by show 0 ≤ (ab_adv (as_E A 2).toNat (ab_dep (as_T A).1 (a % 500)) (ab_p2 A a)).1 ∧ (ab_adv (as_E A 2).toNat (ab_dep (as_T A).1 (a % 500)) (ab_p2 A a)).1 ≤ 1080; omega, ?_⟩
    exact (ab_beg1_E _).trans (j3.trans (ab_p2_E A a))
