/-! execute -/
def ab_thr (T : aT) (a : Int) : Prop := (0 ≤ a ∧ a < 500) ∧ ¬ ab_room1 T a
noncomputable def ab_exe : List Int → aS → Int × aS
  | [], A => (0, A)
  | a :: as, A => @ite _ (ab_thr (as_T A) a) (Classical.propDecidable _) (0, A) ((ab_exe as (ab_act A a).2).1 + 1, (ab_exe as (ab_act A a).2).2)
abbrev ab_avl (a : Int) : Prop := a = -1 ∨ (0 ≤ a ∧ a < 1000)
theorem ab_ao_avl {r rm : Int} (hr : 0 ≤ r ∧ r ≤ 502) (he : ab_ends r) : ab_avl (ab_ao r rm) := by
  unfold ab_ao ab_avl
  unfold ab_ends at he
  split
  · exact Or.inl rfl
  · split <;> omega
theorem ab_pt_prop : ∀ (cs : List Int) (r rm : Int) (i : Nat) (acts acts2 : List Int), (∀ c ∈ cs, 33 ≤ c ∧ c ≤ 126) → (0 ≤ r ∧ r ≤ 502) → (∀ a ∈ acts, ab_avl a) → (2 * acts.length ≤ i ∧ (r ≠ 500 → 2 * acts.length + 1 ≤ i)) → (ab_pt r rm i cs acts).2 = some acts2 → (∀ a ∈ acts2, ab_avl a) ∧ 2 * acts2.length ≤ i + cs.length + 1 := by
  intro cs
  induction cs with
  | nil =>
    intro r rm i acts acts2 hc hr ha hl h
    have h2 : (if ab_ends r then some (acts ++ [ab_ao r rm]) else none) = some acts2 := h
    by_cases he : ab_ends r
    · rw [if_pos he] at h2
      have := Option.some.inj h2
      subst this
      have hr5 : r ≠ 500 := by unfold ab_ends at he; omega
      have := hl.2 hr5
      refine ⟨fun a hm => ?_, by simp; omega⟩
      rcases List.mem_append.mp hm with hm | hm
      · exact ha a hm
      · have : a = ab_ao r rm := by simpa using hm
        rw [this]; exact ab_ao_avl hr he
    · rw [if_neg he] at h2; cases h2
  | cons c cs ih =>
    intro r rm i acts acts2 hc hr ha hl h
    have hcr := hc c List.mem_cons_self
    have hro := ab_ro_rng hr hcr
    have h2 : (if ab_ro r c = 503 then (i, none) else ab_pt (ab_ro r c) (if r = 500 then (if c = 45 then 1 else 0) else rm) (i + 1) cs (if c = 59 ∧ ab_ends r then acts ++ [ab_ao r rm] else acts)).2 = some acts2 := h
    by_cases h503 : ab_ro r c = 503
    · rw [if_pos h503] at h2; cases h2
    · rw [if_neg h503] at h2
      have := ih (ab_ro r c) _ (i + 1) _ acts2 (fun x hx => hc x (List.mem_cons_of_mem _ hx)) (by omega) ?_ ?_ h2
      · refine ⟨this.1, ?_⟩
        rw [List.length_cons]
        omega
      · intro a hm
        split at hm
        · rename_i hh
          rcases List.mem_append.mp hm with hm | hm
          · exact ha a hm
          · have : a = ab_ao r rm := by simpa using hm
            rw [this]; exact ab_ao_avl hr hh.2
        · exact ha a hm
      · by_cases h59 : c = 59 ∧ ab_ends r
        · have hr5 : r ≠ 500 := by have := h59.2; unfold ab_ends at this; omega
          have := hl.2 hr5
          have e500 : ab_ro r c = 500 := by
            have he := h59.2
            unfold ab_ends at he
            unfold ab_ro
            rw [if_neg (by omega), if_neg (by omega), if_pos h59.1]
          rw [if_pos h59, List.length_append, List.length_singleton]
          exact ⟨by omega, fun q => absurd e500 q⟩
        · rw [if_neg h59]
          refine ⟨by omega, fun q => ?_⟩
          by_cases hr5 : r = 500
          · omega
          · have := hl.2 hr5; omega
theorem ab_ptx_prop {le : Int} {ch : Nat → Int} {X acts : List Int} (h : ab_CT le ch X) (hp : (ab_ptx X).2 = some acts) : (∀ a ∈ acts, ab_avl a) ∧ acts.length ≤ 30 := by
  have := ab_pt_prop X 500 0 0 [] acts h.2.2.2 (by decide) (fun a ha => absurd ha List.not_mem_nil) (by simp) hp
  have h60 := h.2.1
  exact ⟨this.1, by omega⟩
theorem ab_thr_ok {T : aT} {a : Int} (ha : ab_avl a) (h : ¬ ab_thr T a) : ab_ok T a := by
  unfold ab_avl at ha
  rcases ha with q | q
  · exact Or.inl q
  · by_cases h5 : a < 500
    · right; left
      refine ⟨q.1, h5, ?_⟩
      by_cases hr : ab_room1 T a
      · exact hr
      · exact absurd ⟨⟨q.1, h5⟩, hr⟩ h
    · exact Or.inr (Or.inr (by omega))
theorem ab_I_exe : ∀ (acts : List Int) (A : aS) (b : Int), ab_I b A → (∀ a ∈ acts, ab_avl a) → ab_I (b + 8 * (acts.length : Int)) (ab_exe acts A).2 := by
  intro acts
  induction acts with
  | nil => intro A b h _; exact h.mono (by simp)
  | cons a as ih =>
    intro A b h ha
    unfold ab_exe
    split
    · exact h.mono (by omega)
    · rename_i hn
      have h1 := (ab_I_act h (ab_thr_ok (ha a List.mem_cons_self) hn)).1
      have := ih _ _ h1 (fun x hx => ha x (List.mem_cons_of_mem _ hx))
      exact this.mono (by rw [List.length_cons]; omega)
section PR
variable {n nl nc nw ru ns : Int} {k d m ks ds ms li qu se co : Nat → Int} {A : aS} {b : Int} {nsv : Int} {sa : Nat → Nat → Nat} {sv : Nat → Nat → Nat → Int} {S : List aS} {E : Nat → Prop}
theorem sp_X4_wouldThrow {T : aT} (hc : ab_cT n k d m T.1 T.2) (hg : ab_g T.1 T.2) {a : Int} (ha : ab_avl a) {Q : Int → Prop} (h0 : ¬ ab_thr T a → Q 0) (h1 : ab_thr T a → Q 1) : wp_X4_wouldThrow n k a Q := by
  unfold wp_X4_wouldThrow
  unfold ab_avl at ha
  refine ⟨by omega, fun h => h0 (fun q => by have := q.1; omega), fun h => ⟨by omega, fun h2 => h0 (fun q => by have := q.1; omega), fun h2 => sp_X4_hasNoRoomFor hc hg (by omega) (fun hr => ⟨by decide, fun _ => h0 (fun q => q.2 hr), fun q => absurd rfl q⟩) (fun hr => ⟨by decide, fun q => absurd q (by decide), fun _ => h1 ⟨by omega, hr⟩⟩)⟩⟩
theorem sp_X4_execute (hC : ab_CS n k d m nl nc nw ru ns ks ds ms li qu se co A) (hI : ab_I b A) (hV : ab_CV nsv sv S) {le : Int} {ch : Nat → Int} {X : List Int} (hT : ab_CT le ch X) {ra pr : Nat → Int}
    {Q : Int → Int → Int → (Nat → Int) → (Nat → Int) → (Nat → Int) → Int → Int → Int → Int → Int → (Nat → Int) → (Nat → Int) → (Nat → Int) → (Nat → Int) → (Nat → Int) → (Nat → Int) → (Nat → Nat → Nat) → (Nat → Nat → Nat → Int) → Int → (Nat → Int) → (Nat → Int) → Prop}
    (h0 : (ab_ptx X).2 = none → E 0)
    (hQ : ∀ acts, (ab_ptx X).2 = some acts → ∀ nsv n k d m nl nc nw ru ns ks ds ms li qu co sa sv ra pr, ab_CS n k d m nl nc nw ru ns ks ds ms li qu se co (ab_exe acts A).2 → ab_CV nsv sv (ab_save S A) → Q (ab_exe acts A).1 nsv n k d m nl nc nw ru ns ks ds ms li qu co sa sv 0 ra pr) :
    wp_X4_execute nsv n k d m nl nc nw ru ns ks ds ms li qu se co sa sv le ch ra pr Q E := by
  unfold wp_X4_execute
  refine sp_X0_readInto hT (fun hn a => ⟨by decide, fun h => absurd rfl h, fun _ => h0 hn⟩) (fun acts hp ra2 hra => ?_)
  have hq := hQ acts hp
  obtain ⟨hav, hlen⟩ := ab_ptx_prop hT hp
  obtain ⟨R, hR⟩ : ∃ R, R = ab_exe acts A := ⟨_, rfl⟩
  rw [← hR] at hq
  refine ⟨by omega, fun _ => ?_, fun h => absurd (by omega) h⟩
  refine sp_X4_saveState hC hI hV (fun nsv sa sv hV2 => ?_)
  have main : ∀ (as : List Int) (i : Nat) (A2 : aS) (b2 : Int) (n : Int) (k d m : Nat → Int) (nl nc nw ru ns : Int) (ks ds ms li qu co pr : Nat → Int), acts.drop i = as → i ≤ acts.length → ab_CS n k d m nl nc nw ru ns ks ds ms li qu se co A2 → ab_I b2 A2 →
      ((i : Int) + (ab_exe as A2).1 = R.1 ∧ (ab_exe as A2).2 = R.2) → lq17 (wp_X4_execute_41 nsv se sa sv 0 ch ra2 (acts.length : Int) Q E) (as.length + 1) n k d m nl nc nw ru ns ks ds ms li qu co pr (i : Int) := by
    intro as
    induction as with
    | nil =>
      intro i A2 b2 n k d m nl nc nw ru ns ks ds ms li qu co pr hd hi hC2 hI2 he
      have h9 := ab_drop_nil hd
      show wp_X4_execute_41 nsv se sa sv 0 ch ra2 (acts.length : Int) Q E (lq17 (wp_X4_execute_41 nsv se sa sv 0 ch ra2 (acts.length : Int) Q E) 0) n k d m nl nc nw ru ns ks ds ms li qu co pr (i : Int)
      unfold wp_X4_execute_41
      refine ⟨by omega, by omega, fun _ => ?_, fun h => absurd (by omega) h⟩
      have e1 : R.1 = (acts.length : Int) := by
        rw [← he.1]
        show (i : Int) + 0 = _
        omega
      have e2 : R.2 = A2 := he.2.symm
      rw [e1, e2] at hq
      exact hq _ _ _ _ _ _ _ _ _ _ _ _ _ _ _ _ _ _ _ _ hC2 hV2
    | cons a as ih =>
      intro i A2 b2 n k d m nl nc nw ru ns ks ds ms li qu co pr hd hi hC2 hI2 he
      obtain ⟨hx, hd2, hlt⟩ := ab_drop hd
      have hra2 := hra i a hx
      have hava := hav a (List.mem_of_getElem? hx)
      show wp_X4_execute_41 nsv se sa sv 0 ch ra2 (acts.length : Int) Q E (lq17 (wp_X4_execute_41 nsv se sa sv 0 ch ra2 (acts.length : Int) Q E) (as.length + 1)) n k d m nl nc nw ru ns ks ds ms li qu co pr (i : Int)
      generalize lq17 (wp_X4_execute_41 nsv se sa sv 0 ch ra2 (acts.length : Int) Q E) (as.length + 1) = K at ih ⊢
      unfold ab_exe at he
      unfold wp_X4_execute_41
      simp only [Int.toNat_natCast, hra2]
      refine ⟨by omega, by omega, fun h => absurd h (by omega), fun _ => ⟨by omega, sp_X4_wouldThrow hC2.1 hI2.1 hava (fun hn => ⟨by decide, fun _ => ⟨by omega, ?_⟩, fun q => absurd rfl q⟩) (fun ht => ⟨by decide, fun q => absurd q (by decide), fun _ => ?_⟩)⟩⟩
      · rw [if_neg hn] at he
        refine sp_X4_perform hC2 hI2 (ab_thr_ok hava hn) (fun r n k d m nl nc nw ru ns ks ds ms li qu co pr _ _ g => ?_)
        have := ih (i + 1) _ _ n k d m nl nc nw ru ns ks ds ms li qu co pr hd2 (by omega) g (ab_I_act hI2 (ab_thr_ok hava hn)).1 ⟨by rw [← he.1]; push_cast; omega, he.2⟩
        push_cast at this
        exact this
      · rw [if_pos ht] at he
        have e1 : R.1 = (i : Int) := by
          rw [← he.1]
          show (i : Int) + 0 = _
          omega
        have e2 : R.2 = A2 := he.2.symm
        rw [e1, e2] at hq
        exact hq _ _ _ _ _ _ _ _ _ _ _ _ _ _ _ _ _ _ _ _ hC2 hV2
  exact ⟨_, main acts 0 A b n k d m nl nc nw ru ns ks ds ms li qu co pr rfl (Nat.zero_le _) hC hI ⟨by rw [hR]; omega, by rw [hR]⟩⟩
theorem sp_X4_firstError {le : Int} {ch : Nat → Int} {X : List Int} (hT : ab_CT le ch X) {Q : Int → Prop} (hQ : Q ((ab_ptx X).1 : Int)) : wp_X4_firstError le ch Q := by
  unfold wp_X4_firstError
  exact sp_X0_errorIndex hT hQ
end PR
section PR5
variable {z : Nat → Int} {A : aS} {b : Int} {nsv thr nvi low high nto spo : Int} {svm vi sr fr to ho ke : Nat → Int} {S : List aS}
/-- a complete text has its end where its first error is told -/
theorem ab_pt_fst : ∀ (cs : List Int) (r rm : Int) (i : Nat) (acts acts2 : List Int), (ab_pt r rm i cs acts).2 = some acts2 → (ab_pt r rm i cs acts).1 = i + cs.length := by
  intro cs
  induction cs with
  | nil => intro r rm i acts acts2 _; rfl
  | cons c cs ih =>
    intro r rm i acts acts2 h
    have h2 : (if ab_ro r c = 503 then (i, none) else ab_pt (ab_ro r c) (if r = 500 then (if c = 45 then 1 else 0) else rm) (i + 1) cs (if c = 59 ∧ ab_ends r then acts ++ [ab_ao r rm] else acts)).2 = some acts2 := h
    show (if ab_ro r c = 503 then (i, none) else ab_pt (ab_ro r c) (if r = 500 then (if c = 45 then 1 else 0) else rm) (i + 1) cs (if c = 59 ∧ ab_ends r then acts ++ [ab_ao r rm] else acts)).1 = _
    by_cases h503 : ab_ro r c = 503
    · rw [if_pos h503] at h2; cases h2
    · rw [if_neg h503] at h2 ⊢
      rw [ih _ _ _ _ _ h2, List.length_cons]
      omega
end PR5
