/-! saved states and snapshots -/
def ab_CU (u : Nat → Nat → Int) (A : aS) : Prop := ab_CS (u 0 0) (u 1) (u 2) (u 3) (u 4 0) (u 5 0) (u 6 0) (u 7 0) (u 8 0) (u 9) (u 10) (u 11) (u 12) (u 13) (u 14) (u 15) A
def ab_CV (nsv : Int) (sv : Nat → Nat → Nat → Int) (S : List aS) : Prop := nsv = (S.length : Int) ∧ S.length ≤ 6 ∧ ∀ (i : Nat) (A : aS), S[i]? = some A → ab_CU (sv i) A
def ab_MV (nsv : Int) (sv : Nat → Int) (S : List aS) : Prop := nsv = (S.length : Int) ∧ S.length ≤ 6 ∧ ∀ (i : Nat) (A : aS), S[i]? = some A → ab_MS (fun k => sv (646 * i + k)) A
def ab_CN (nv : Nat → Nat → Nat → Int) (sf : Nat → Int) (P : Nat → Option aS) : Prop := ∀ i, i < 2 → (sf i = 0 ∨ sf i = 1) ∧ (sf i = 0 ↔ P i = none) ∧ ∀ A, P i = some A → ab_CU (nv i) A
def ab_MN (so : Nat → Int) (ik : Nat → Int) (P : Nat → Option aS) : Prop := ∀ i, i < 2 → (ik i = 0 ∨ ik i = 1) ∧ (ik i = 0 ↔ P i = none) ∧ ∀ A, P i = some A → ab_MS (fun k => so (646 * i + k)) A
def ab_save (S : List aS) (A : aS) : List aS := (if S.length = 6 then S.drop 1 else S) ++ [A]
theorem ab_CU_mk {n nl nc nw ru ns : Int} {k d m ks ds ms li qu se co : Nat → Int} {A : aS} (h : ab_CS n k d m nl nc nw ru ns ks ds ms li qu se co A) : ab_CU (mkU n k d m nl nc nw ru ns ks ds ms li qu se co) A := h
theorem ab_MS_congr {z z2 : Nat → Int} {A : aS} {b : Int} (h : ab_MS z A) (hI : ab_I b A) (hz : ∀ j, j < 646 → z2 j = z j) : ab_MS z2 A := by
  obtain ⟨h1, h2, ⟨h3, h4, h5, h6⟩, ⟨h7, h8⟩, h9, h10⟩ := h
  have i3 := hI.2.2.1
  refine ⟨ab_mT_congr h1 hI.1 (fun j a b => hz j (by omega)), ab_mT_congr h2 hI.2.1 (fun j a b => hz j (by omega)), ⟨?_, ?_, ?_, ?_⟩, ⟨fun p x hx => ?_, fun p x hx => ?_⟩, fun i hi => ?_, fun i hi => ?_⟩
  · rw [hz _ (by omega)]; exact h3
  · rw [hz _ (by omega)]; exact h4
  · rw [hz _ (by omega)]; exact h5
  · rw [hz _ (by omega)]; exact h6
  · have hlt : p < (as_L A).length := (List.getElem?_eq_some_iff.mp hx).1
    rw [hz _ (by omega)]; exact h7 p x hx
  · have hlt : p < (as_Q A).length := (List.getElem?_eq_some_iff.mp hx).1
    rw [hz _ (by omega)]; exact h8 p x hx
  · rw [hz _ (by omega)]; exact h9 i hi
  · rw [hz _ (by omega)]; exact h10 i hi
theorem ab_save_at {S : List aS} {A B : aS} {i : Nat} (hl : S.length ≤ 6) (h : (ab_save S A)[i]? = some B) : (i + 1 = (ab_save S A).length ∧ B = A) ∨ (i + 1 < (ab_save S A).length ∧ S[(if S.length = 6 then i + 1 else i)]? = some B) := by
  unfold ab_save at h ⊢
  have hlt := (List.getElem?_eq_some_iff.mp h).1
  rw [List.length_append, List.length_singleton] at hlt ⊢
  by_cases hi : i < (if S.length = 6 then S.drop 1 else S).length
  · rw [List.getElem?_append_left hi] at h
    right
    refine ⟨by omega, ?_⟩
    split at h
    · rename_i h6
      rw [if_pos h6]
      rw [List.getElem?_drop] at h
      rw [Nat.add_comm i 1]
      exact h
    · rename_i h6
      rw [if_neg h6]
      exact h
  · left
    rw [List.getElem?_append_right (by omega), show i - (if S.length = 6 then S.drop 1 else S).length = 0 by omega] at h
    refine ⟨by omega, ?_⟩
    have : A = B := by simpa using h
    exact this.symm
theorem ab_save_len {S : List aS} {A : aS} (hl : S.length ≤ 6) : (ab_save S A).length = (if S.length = 6 then 6 else S.length + 1) := by
  unfold ab_save
  rw [List.length_append, List.length_singleton]
  split
  · rw [List.length_drop]; omega
  · rfl
theorem ab_save_I {S : List aS} {A : aS} {b : Int} (hS : ∀ B ∈ S, ab_I b B) (hA : ab_I b A) : ∀ B ∈ ab_save S A, ab_I b B := by
  intro B hB
  unfold ab_save at hB
  rcases List.mem_append.mp hB with h | h
  · split at h
    · exact hS B (List.mem_of_mem_drop h)
    · exact hS B h
  · have : B = A := by simpa using h
    rw [this]; exact hA
section PL
variable {n nl nc nw ru ns : Int} {k d m ks ds ms li qu se co : Nat → Int} {A : aS} {b : Int} {nsv : Int} {sa : Nat → Nat → Nat} {sv : Nat → Nat → Nat → Int} {S : List aS}
theorem sp_X4_saveState (hC : ab_CS n k d m nl nc nw ru ns ks ds ms li qu se co A) (hI : ab_I b A) (hV : ab_CV nsv sv S) {Q : Int → (Nat → Nat → Nat) → (Nat → Nat → Nat → Int) → Prop}
    (hQ : ∀ nsv sa sv, ab_CV nsv sv (ab_save S A) → Q nsv sa sv) : wp_X4_saveState nsv n k d m nl nc nw ru ns ks ds ms li qu se co sa sv Q := by
  obtain ⟨v1, v2, v3⟩ := hV
  unfold wp_X4_saveState wp_X4_dropOldestState
  refine ⟨by omega, fun h => ?_, fun h => ?_⟩
  · unfold wp_X4_saveState_13
    have e : nsv.toNat = S.length := by omega
    rw [e]
    refine ⟨by omega, by omega, sp_X2_becomeCopyOf hC hI (fun k d m ks ds ms li qu se co g => hQ _ _ _ ⟨?_, ?_, fun i B hB => ?_⟩)⟩
    · rw [ab_save_len v2, if_neg (by omega)]; omega
    · rw [ab_save_len v2, if_neg (by omega)]; omega
    · have hl := ab_save_len (S := S) (A := A) v2
      rw [if_neg (by omega)] at hl
      rcases ab_save_at v2 hB with ⟨h1, rfl⟩ | ⟨h1, h2⟩
      · unfold upS
        rw [if_pos (by omega)]
        exact ab_CU_mk g
      · rw [if_neg (by omega)] at h2
        unfold upS
        rw [if_neg (by omega)]
        exact v3 i B h2
  · have hl6 : S.length = 6 := by omega
    show wp_X4_saveState_13 5 n k d m nl nc nw ru ns ks ds ms li qu se co (rotA sa) (rotS sv) Q
    unfold wp_X4_saveState_13
    have e : (5 : Int).toNat = 5 := rfl
    rw [e]
    refine ⟨by decide, by decide, sp_X2_becomeCopyOf hC hI (fun k d m ks ds ms li qu se co g => hQ _ _ _ ⟨?_, ?_, fun i B hB => ?_⟩)⟩
    · rw [ab_save_len v2, if_pos hl6]; rfl
    · rw [ab_save_len v2, if_pos hl6]; omega
    · have hl := ab_save_len (S := S) (A := A) v2
      rw [if_pos hl6] at hl
      rcases ab_save_at v2 hB with ⟨h1, rfl⟩ | ⟨h1, h2⟩
      · unfold upS
        rw [if_pos (by omega)]
        exact ab_CU_mk g
      · rw [if_pos hl6] at h2
        unfold upS rotS
        rw [if_neg (by omega), if_pos (by omega)]
        exact v3 (i + 1) B h2
theorem sp_X5_copyState {NP NP2 a c : Nat} (h1 : a + 646 ≤ NP) (h2 : c + 646 ≤ NP2) {f g : Nat → Int} {Q : (Nat → Int) → Prop} (hQ : ∀ g2, (∀ i, i < 646 → g2 (c + i) = f (a + i)) → (∀ j, ¬ (c ≤ j ∧ j < c + 646) → g2 j = g j) → Q g2) : wp_X5_copyState NP NP2 f g (a : Int) (c : Int) Q := by
  have main : ∀ (m i : Nat) (g2 : Nat → Int), i + m = 646 → (∀ j, j < i → g2 (c + j) = f (a + j)) → (∀ j, ¬ (c ≤ j ∧ j < c + i) → g2 j = g j) → lq2 (wp_X5_copyState_3 NP NP2 f (a : Int) (c : Int) Q) (m + 1) g2 (i : Int) := by
    intro m
    induction m with
    | zero =>
      intro i g2 hi q1 q2
      have hi2 : i = 646 := by omega
      subst hi2
      show wp_X5_copyState_3 NP NP2 f (a : Int) (c : Int) Q (lq2 (wp_X5_copyState_3 NP NP2 f (a : Int) (c : Int) Q) 0) g2 ((646 : Nat) : Int)
      unfold wp_X5_copyState_3
      exact ⟨by omega, fun _ => hQ g2 q1 q2, fun h => absurd (by omega) h⟩
    | succ m ih =>
      intro i g2 hi q1 q2
      show wp_X5_copyState_3 NP NP2 f (a : Int) (c : Int) Q (lq2 (wp_X5_copyState_3 NP NP2 f (a : Int) (c : Int) Q) (m + 1)) g2 (i : Int)
      generalize lq2 (wp_X5_copyState_3 NP NP2 f (a : Int) (c : Int) Q) (m + 1) = K at ih ⊢
      have e1 : ((a : Int) + (i : Int)).toNat = a + i := by omega
      have e2 : ((c : Int) + (i : Int)).toNat = c + i := by omega
      unfold wp_X5_copyState_3
      simp only [e1, e2]
      refine ⟨by omega, fun h => absurd h (by omega), fun _ => ⟨by omega, by omega, ?_⟩⟩
      have := ih (i + 1) (uI g2 (c + i) (f (a + i))) (by omega) (fun j hj => by
        by_cases hji : j = i
        · subst hji
          rw [uI_eq]
        · rw [uI_ne (by omega)]
          exact q1 j (by omega)) (fun j hj => by rw [uI_ne (by omega)]; exact q2 j (by omega))
      push_cast at this
      exact this
  unfold wp_X5_copyState
  exact ⟨_, main 646 0 g rfl (fun j hj => absurd hj (Nat.not_lt_zero _)) (fun j _ => rfl)⟩
theorem sp_X5_saveState {z svm : Nat → Int} (h : ab_MS z A) (hI : ab_I b A) (hV : ab_MV nsv svm S) (hSI : ∀ B ∈ S, ab_I b B) {Q : Int → (Nat → Int) → Prop}
    (hQ : ∀ nsv svm, ab_MV nsv svm (ab_save S A) → Q nsv svm) : wp_X5_saveState nsv z svm Q := by
  obtain ⟨v1, v2, v3⟩ := hV
  have hl := ab_save_len (S := S) (A := A) v2
  have fin : ∀ (j : Nat) (svm2 : Nat → Int), j + 1 = (ab_save S A).length → j < 6 → (∀ (i : Nat) (B : aS), i < j → S[(if S.length = 6 then i + 1 else i)]? = some B → ab_MS (fun k => svm2 (646 * i + k)) B) → wp_X5_saveState_50 (j : Int) z svm2 Q := by
    intro j svm2 hj hj6 hm
    unfold wp_X5_saveState_50
    rw [show (646 : Int) * (j : Int) = ((646 * j : Nat) : Int) by omega]
    refine sp_X5_copyState (a := 0) (c := 646 * j) (by omega) (by omega) (fun g2 q1 q2 => hQ _ _ ⟨by omega, by rw [← hj]; omega, fun i B hB => ?_⟩)
    rcases ab_save_at v2 hB with ⟨h1, rfl⟩ | ⟨h1, h2⟩
    · have : i = j := by omega
      subst this
      exact ab_MS_congr h hI (fun t ht => by rw [q1 t ht, Nat.zero_add])
    · have hBI : ab_I b B := hSI B (List.mem_of_getElem? h2)
      exact ab_MS_congr (hm i B (by omega) h2) hBI (fun t ht => q2 _ (by omega))
  unfold wp_X5_saveState
  refine ⟨by omega, fun h6 => ?_, fun h6 => ?_⟩
  · have hn : ¬ S.length = 6 := by omega
    rw [if_neg hn] at hl
    rw [v1]
    exact fin S.length svm (by omega) (by omega) (fun i B hi hB => by rw [if_neg hn] at hB; exact v3 i B hB)
  · have hn : S.length = 6 := by omega
    rw [if_pos hn] at hl
    have main : ∀ (m i : Nat) (s2 : Nat → Int), i + m = 3230 → (∀ j, j < i → s2 j = svm (j + 646)) → (∀ j, i ≤ j → s2 j = svm j) → lq2 (wp_X5_saveState_11 nsv z Q) (m + 1) s2 (i : Int) := by
      intro m
      induction m with
      | zero =>
        intro i s2 hi q1 q2
        have hi2 : i = 3230 := by omega
        subst hi2
        show wp_X5_saveState_11 nsv z Q (lq2 (wp_X5_saveState_11 nsv z Q) 0) s2 ((3230 : Nat) : Int)
        unfold wp_X5_saveState_11
        refine ⟨by omega, fun _ => ?_, fun h => absurd (by omega) h⟩
        rw [show nsv - 1 = ((5 : Nat) : Int) by omega]
        refine fin 5 s2 (by omega) (by omega) (fun i B hi hB => ?_)
        rw [if_pos hn] at hB
        have hBI : ab_I b B := hSI B (List.mem_of_getElem? hB)
        exact ab_MS_congr (v3 (i + 1) B hB) hBI (fun t ht => by
          show s2 (646 * i + t) = svm (646 * (i + 1) + t)
          rw [q1 _ (by omega)]
          congr 1
          omega)
      | succ m ih =>
        intro i s2 hi q1 q2
        show wp_X5_saveState_11 nsv z Q (lq2 (wp_X5_saveState_11 nsv z Q) (m + 1)) s2 (i : Int)
        generalize lq2 (wp_X5_saveState_11 nsv z Q) (m + 1) = K at ih ⊢
        have e1 : ((i : Int) + 646).toNat = i + 646 := by omega
        unfold wp_X5_saveState_11
        simp only [e1, Int.toNat_natCast]
        refine ⟨by omega, fun h => absurd h (by omega), fun _ => ⟨by omega, by omega, ?_⟩⟩
        have := ih (i + 1) (uI s2 i (s2 (i + 646))) (by omega) (fun j hj => by
          by_cases hji : j = i
          · subst hji
            rw [uI_eq]
            exact q2 _ (by omega)
          · rw [uI_ne hji]
            exact q1 j (by omega)) (fun j hj => by rw [uI_ne (by omega)]; exact q2 j (by omega))
        push_cast at this
        exact this
    exact ⟨_, main 3230 0 svm rfl (fun j hj => absurd hj (Nat.not_lt_zero _)) (fun j _ => rfl)⟩
/-! the checks of the class -/
theorem sp_X4_checkKey {x : Int} (hx : inR x) {Q : Prop} {E : Nat → Prop} (h0 : ¬ (0 ≤ x ∧ x < 500) → E 0) (h1 : 0 ≤ x ∧ x < 500 → Q) : wp_X4_checkKey x Q E := by
  unfold wp_X4_checkKey
  exact ⟨hx, fun h => h0 (by omega), fun h => ⟨hx, fun h2 => h1 (by omega), fun h2 => h0 (by omega)⟩⟩
theorem sp_X4_checkWhat {x g : Int} (hx : inR x) (hg : inR g) {Q : Prop} {E : Nat → Prop} (h0 : ¬ (0 ≤ x ∧ x ≤ g) → E 0) (h1 : 0 ≤ x ∧ x ≤ g → Q) : wp_X4_checkWhat x g Q E := by
  unfold wp_X4_checkWhat
  exact ⟨hx, fun h => h0 (by omega), fun h => ⟨hx, hg, fun h2 => h1 (by omega), fun h2 => h0 (by omega)⟩⟩
theorem sp_X4_checkSlot {x : Int} (hx : inR x) {Q : Prop} {E : Nat → Prop} (h0 : ¬ (0 ≤ x ∧ x < 2) → E 0) (h1 : 0 ≤ x ∧ x < 2 → Q) : wp_X4_checkSlot x Q E := by
  unfold wp_X4_checkSlot
  exact ⟨hx, fun h => h0 (by omega), fun h => ⟨hx, fun h2 => h1 (by omega), fun h2 => h0 (by omega)⟩⟩
theorem sp_X4_checkSpeed {x : Int} (hx : inR x) {Q : Prop} {E : Nat → Prop} (h0 : ¬ (1 ≤ x ∧ x ≤ 8) → E 0) (h1 : 1 ≤ x ∧ x ≤ 8 → Q) : wp_X4_checkSpeed x Q E := by
  unfold wp_X4_checkSpeed
  exact ⟨hx, fun h => h0 (by omega), fun h => ⟨hx, fun h2 => h1 (by omega), fun h2 => h0 (by omega)⟩⟩
theorem sp_X4_checkSetting {x : Int} (hx : inR x) {Q : Prop} {E : Nat → Prop} (h0 : ¬ (0 ≤ x ∧ x < 3) → E 2) (h1 : 0 ≤ x ∧ x < 3 → Q) : wp_X4_checkSetting x Q E := by
  unfold wp_X4_checkSetting
  exact ⟨hx, fun h => h0 (by omega), fun h => ⟨hx, fun h2 => h1 (by omega), fun h2 => h0 (by omega)⟩⟩
def ab_room1 (T : aT) (key : Int) : Prop := key ∈ T.1 ∨ T.1.length < 120
theorem sp_X4_hasNoRoomFor {T : aT} (hc : ab_cT n k d m T.1 T.2) (hg : ab_g T.1 T.2) {key : Int} (hk : 0 ≤ key ∧ key < 500) {Q : Int → Prop} (h0 : ab_room1 T key → Q 0) (h1 : ¬ ab_room1 T key → Q 1) : wp_X4_hasNoRoomFor n k key Q := by
  have hn := hc.1
  have hl := hg.2.2.1
  unfold wp_X4_hasNoRoomFor
  unfold ab_room1 at h0 h1
  refine ⟨by omega, fun h => h0 (Or.inr (by omega)), fun h => sp_X3_hasNode hc hg hk (fun hm => ⟨by decide, fun q => absurd rfl q, fun _ => h1 (fun q => q.elim hm (by omega))⟩) (fun hm => ⟨by decide, fun _ => h0 (Or.inl hm), fun q => absurd (by decide) q⟩)⟩
theorem sp_X5_hasRoom {z : Nat → Int} {T : aT} (hm : ab_mT z 0 T.1 T.2) (hg : ab_g T.1 T.2) {key : Int} (hk : inR key) {Q : Int → Prop} (h0 : ¬ ab_room1 T key → Q 0) (h1 : ab_room1 T key → Q 1) : wp_X5_hasRoom z key Q := by
  have hz := hm.1
  have hl := hg.2.2.1
  unfold wp_X5_hasRoom
  unfold ab_room1 at h0 h1
  rw [hz]
  refine ⟨by omega, fun h => h1 (Or.inr (by omega)), fun h => sp_X5_placeOf (t := 0) hm hg (Nat.zero_le _) hk (fun hm => ⟨by decide, fun _ => h0 (fun q => q.elim hm (by omega)), fun q => absurd rfl q⟩) (fun i hi => ?_)⟩
  have hlt := (List.getElem?_eq_some_iff.mp hi).1
  exact ⟨by omega, fun q => absurd q (by omega), fun _ => h1 (Or.inl (List.mem_of_getElem? hi))⟩
theorem sp_X5_refused {thr s0 : Int} {Q : Int → Int → Prop} (hs : inR s0) (h0 : s0 ≤ 0 → Q 0 s0) (h1 : 0 < s0 → Q 1 s0) : wp_X5_refused thr s0 Q := by
  unfold wp_X5_refused
  exact ⟨hs, h0, fun h => h1 (by omega)⟩
/-! add, remove, idle -/
theorem sp_X4_add (hC : ab_CS n k d m nl nc nw ru ns ks ds ms li qu se co A) (hI : ab_I b A) (hV : ab_CV nsv sv S) {key : Int} (hk : inR key) {pr : Nat → Int}
    {Q : Int → Int → Int → (Nat → Int) → (Nat → Int) → (Nat → Int) → Int → Int → Int → Int → Int → (Nat → Int) → (Nat → Int) → (Nat → Int) → (Nat → Int) → (Nat → Int) → (Nat → Int) → (Nat → Nat → Nat) → (Nat → Nat → Nat → Int) → (Nat → Int) → Prop} {E : Nat → Prop}
    (h0 : ¬ (0 ≤ key ∧ key < 500) → E 0) (h1 : 0 ≤ key ∧ key < 500 → ¬ ab_room1 (as_T A) key → E 1)
    (hQ : 0 ≤ key ∧ key < 500 → ab_room1 (as_T A) key → ∀ r nsv n k d m nl nc nw ru ns ks ds ms li qu co sa sv pr, (r = 0 ∨ r = 1) → (r = 1 ↔ ¬ ab_pres (as_T A) key) → ab_CS n k d m nl nc nw ru ns ks ds ms li qu se co (ab_act A key).2 → ab_CV nsv sv (ab_save S A) → Q r nsv n k d m nl nc nw ru ns ks ds ms li qu co sa sv pr) :
    wp_X4_add nsv n k d m nl nc nw ru ns ks ds ms li qu se co sa sv pr key Q E := by
  unfold wp_X4_add
  refine sp_X4_checkKey hk h0 (fun hk2 => sp_X4_hasNoRoomFor hC.1 hI.1 hk2 (fun hr => ⟨by decide, fun _ => ?_, fun q => absurd rfl q⟩) (fun hr => ⟨by decide, fun q => absurd q (by decide), fun _ => h1 hk2 hr⟩))
  refine sp_X4_saveState hC hI hV (fun nsv sa sv hV2 => sp_X4_perform hC hI (Or.inr (Or.inl ⟨hk2.1, hk2.2, hr⟩)) (fun r n k d m nl nc nw ru ns ks ds ms li qu co pr hr01 hrc g => ?_))
  have hrc2 := hrc (by omega)
  unfold ab_chg at hrc2
  rw [if_pos (by omega)] at hrc2
  refine ⟨by omega, fun h => ?_, fun h => ?_⟩
  · have := hQ hk2 hr r nsv n k d m nl nc nw ru ns ks ds ms li qu co sa sv pr hr01 hrc2 g hV2
    rw [h] at this
    exact this
  · have h1 : r = 1 := by omega
    have := hQ hk2 hr r nsv n k d m nl nc nw ru ns ks ds ms li qu co sa sv pr hr01 hrc2 g hV2
    rw [h1] at this
    exact this
theorem sp_X4_remove (hC : ab_CS n k d m nl nc nw ru ns ks ds ms li qu se co A) (hI : ab_I b A) (hV : ab_CV nsv sv S) {key : Int} (hk : inR key) {pr : Nat → Int}
    {Q : Int → Int → Int → (Nat → Int) → (Nat → Int) → (Nat → Int) → Int → Int → Int → Int → Int → (Nat → Int) → (Nat → Int) → (Nat → Int) → (Nat → Int) → (Nat → Int) → (Nat → Int) → (Nat → Nat → Nat) → (Nat → Nat → Nat → Int) → (Nat → Int) → Prop} {E : Nat → Prop}
    (h0 : ¬ (0 ≤ key ∧ key < 500) → E 0)
    (hQ : 0 ≤ key ∧ key < 500 → ∀ r nsv n k d m nl nc nw ru ns ks ds ms li qu co sa sv pr, (r = 0 ∨ r = 1) → (r = 1 ↔ ab_pres (as_T A) key) → ab_CS n k d m nl nc nw ru ns ks ds ms li qu se co (ab_act A (key + 500)).2 → ab_CV nsv sv (ab_save S A) → Q r nsv n k d m nl nc nw ru ns ks ds ms li qu co sa sv pr) :
    wp_X4_remove nsv n k d m nl nc nw ru ns ks ds ms li qu se co sa sv pr key Q E := by
  unfold wp_X4_remove
  refine sp_X4_checkKey hk h0 (fun hk2 => ?_)
  refine sp_X4_saveState hC hI hV (fun nsv sa sv hV2 => sp_X4_perform hC hI (Or.inr (Or.inr ⟨by omega, by omega⟩)) (fun r n k d m nl nc nw ru ns ks ds ms li qu co pr hr01 hrc g => ?_))
  have hrc2 := hrc (by omega)
  unfold ab_chg at hrc2
  rw [if_neg (by omega), show key + 500 - 500 = key by omega] at hrc2
  refine ⟨by omega, fun h => ?_, fun h => ?_⟩
  · have := hQ hk2 r nsv n k d m nl nc nw ru ns ks ds ms li qu co sa sv pr hr01 hrc2 g hV2
    rw [h] at this
    exact this
  · have h1 : r = 1 := by omega
    have := hQ hk2 r nsv n k d m nl nc nw ru ns ks ds ms li qu co sa sv pr hr01 hrc2 g hV2
    rw [h1] at this
    exact this
theorem ab_act_N0 (A : aS) (a : Int) : as_N (ab_act A a).2 0 = (ab_act A a).1 := by
  unfold ab_act
  split <;> rfl
theorem sp_X4_idle (hC : ab_CS n k d m nl nc nw ru ns ks ds ms li qu se co A) (hI : ab_I b A) (hV : ab_CV nsv sv S) {pr : Nat → Int}
    {Q : Int → Int → Int → (Nat → Int) → (Nat → Int) → (Nat → Int) → Int → Int → Int → Int → Int → (Nat → Int) → (Nat → Int) → (Nat → Int) → (Nat → Int) → (Nat → Int) → (Nat → Int) → (Nat → Nat → Nat) → (Nat → Nat → Nat → Int) → (Nat → Int) → Prop}
    (hQ : ∀ nsv n k d m nl nc nw ru ns ks ds ms li qu co sa sv pr, ab_CS n k d m nl nc nw ru ns ks ds ms li qu se co (ab_act A (-1)).2 → ab_CV nsv sv (ab_save S A) → Q (ab_act A (-1)).1 nsv n k d m nl nc nw ru ns ks ds ms li qu co sa sv pr) :
    wp_X4_idle nsv n k d m nl nc nw ru ns ks ds ms li qu se co sa sv pr Q := by
  unfold wp_X4_idle
  refine sp_X4_saveState hC hI hV (fun nsv sa sv hV2 => sp_X4_perform hC hI (Or.inl rfl) (fun r n k d m nl nc nw ru ns ks ds ms li qu co pr hr01 hrc g => ?_))
  have e : co 0 = (ab_act A (-1)).1 := by
    rw [g.2.2.2 0 (by decide)]
    exact ab_act_N0 A (-1)
  rw [e]
  exact hQ _ _ _ _ _ _ _ _ _ _ _ _ _ _ _ _ _ _ _ g hV2
end PL
section PL5
variable {z : Nat → Int} {A : aS} {b : Int} {nsv thr nvi low high : Int} {svm vi sr fr to : Nat → Int} {S : List aS}
theorem sp_X5_add (h : ab_MS z A) (hI : ab_I b A) (hV : ab_MV nsv svm S) (hSI : ∀ B ∈ S, ab_I b B) {key : Int} (hk : inR key)
    {Q : Int → Int → Int → Int → Int → Int → (Nat → Int) → (Nat → Int) → (Nat → Int) → (Nat → Int) → (Nat → Int) → (Nat → Int) → Prop}
    (h0 : ¬ (0 ≤ key ∧ key < 500) → Q 0 nsv 1 nvi low high z svm vi sr fr to) (h1 : 0 ≤ key ∧ key < 500 → ¬ ab_room1 (as_T A) key → Q 0 nsv 2 nvi low high z svm vi sr fr to)
    (hQ : 0 ≤ key ∧ key < 500 → ab_room1 (as_T A) key → ∀ r nsv nvi low high z svm vi sr fr to, (r = 0 ∨ r = 1) → (r = 1 ↔ ¬ ab_pres (as_T A) key) → ab_MS z (ab_act A key).2 → ab_MV nsv svm (ab_save S A) → Q r nsv 0 nvi low high z svm vi sr fr to) :
    wp_X5_add nsv thr nvi low high z svm vi sr fr to key Q := by
  unfold wp_X5_add wp_X5_add_25
  refine sp_X5_isKey hk (fun hn => ⟨by decide, fun q => absurd rfl q, fun _ => sp_X5_refused (by decide) (fun q => absurd q (by decide)) (fun _ => ⟨by decide, fun q => absurd q (by decide), fun _ => h0 hn⟩)⟩) (fun hk2 => ⟨by decide, fun _ => ?_, fun q => absurd (by decide) q⟩)
  refine sp_X5_hasRoom h.1 hI.1 hk (fun hr => ⟨by decide, fun _ => sp_X5_refused (by decide) (fun q => absurd q (by decide)) (fun _ => ⟨by decide, fun q => absurd q (by decide), fun _ => h1 hk2 hr⟩), fun q => absurd rfl q⟩) (fun hr => ⟨by decide, fun q => absurd q (by decide), fun _ => ?_⟩)
  refine sp_X5_refused (by decide) (fun _ => ⟨by decide, fun _ => ?_, fun q => absurd rfl q⟩) (fun q => absurd q (by decide))
  refine sp_X5_saveState h hI hV hSI (fun nsv svm hV2 => sp_X5_isPresent (t := 0) h.1 hI.1 (Nat.zero_le _) hk (fun hp => ⟨by decide, fun _ => ?_, fun q => absurd rfl q⟩) (fun hp => ⟨by decide, fun q => absurd q (by decide), fun _ => ?_⟩))
  · exact sp_X5_act h hI (a := key) (Or.inr (Or.inl ⟨hk2.1, hk2.2, hr⟩)) (Or.inl ⟨rfl, rfl, hk2.1, hk2.2⟩) (fun nvi low high z2 vi sr fr to g => hQ hk2 hr 1 _ _ _ _ _ _ _ _ _ _ (Or.inr rfl) ⟨fun _ => hp, fun _ => rfl⟩ g hV2)
  · exact sp_X5_act h hI (a := key) (Or.inr (Or.inl ⟨hk2.1, hk2.2, hr⟩)) (Or.inl ⟨rfl, rfl, hk2.1, hk2.2⟩) (fun nvi low high z2 vi sr fr to g => hQ hk2 hr 0 _ _ _ _ _ _ _ _ _ _ (Or.inl rfl) ⟨fun q => absurd q (by decide), fun q => absurd hp q⟩ g hV2)
theorem sp_X5_remove (h : ab_MS z A) (hI : ab_I b A) (hV : ab_MV nsv svm S) (hSI : ∀ B ∈ S, ab_I b B) {key : Int} (hk : inR key)
    {Q : Int → Int → Int → Int → Int → Int → (Nat → Int) → (Nat → Int) → (Nat → Int) → (Nat → Int) → (Nat → Int) → (Nat → Int) → Prop}
    (h0 : ¬ (0 ≤ key ∧ key < 500) → Q 0 nsv 1 nvi low high z svm vi sr fr to)
    (hQ : 0 ≤ key ∧ key < 500 → ∀ r nsv nvi low high z svm vi sr fr to, (r = 0 ∨ r = 1) → (r = 1 ↔ ab_pres (as_T A) key) → ab_MS z (ab_act A (key + 500)).2 → ab_MV nsv svm (ab_save S A) → Q r nsv 0 nvi low high z svm vi sr fr to) :
    wp_X5_remove nsv thr nvi low high z svm vi sr fr to key Q := by
  unfold wp_X5_remove wp_X5_remove_13
  refine sp_X5_isKey hk (fun hn => ⟨by decide, fun _ => sp_X5_refused (by decide) (fun q => absurd q (by decide)) (fun _ => ⟨by decide, fun q => absurd q (by decide), fun _ => h0 hn⟩), fun q => absurd rfl q⟩) (fun hk2 => ⟨by decide, fun q => absurd q (by decide), fun _ => ?_⟩)
  refine sp_X5_refused (by decide) (fun _ => ⟨by decide, fun _ => ?_, fun q => absurd rfl q⟩) (fun q => absurd q (by decide))
  refine sp_X5_saveState h hI hV hSI (fun nsv svm hV2 => sp_X5_isPresent (t := 0) h.1 hI.1 (Nat.zero_le _) hk (fun hp => ⟨by decide, fun _ => ?_, fun q => absurd rfl q⟩) (fun hp => ⟨by decide, fun q => absurd q (by decide), fun _ => ?_⟩))
  · exact sp_X5_act h hI (a := key + 500) (Or.inr (Or.inr ⟨by omega, by omega⟩)) (Or.inr (Or.inl ⟨rfl, by omega, hk2.1, hk2.2⟩)) (fun nvi low high z2 vi sr fr to g => hQ hk2 0 _ _ _ _ _ _ _ _ _ _ (Or.inl rfl) ⟨fun q => absurd q (by decide), fun q => absurd q hp⟩ g hV2)
  · exact sp_X5_act h hI (a := key + 500) (Or.inr (Or.inr ⟨by omega, by omega⟩)) (Or.inr (Or.inl ⟨rfl, by omega, hk2.1, hk2.2⟩)) (fun nvi low high z2 vi sr fr to g => hQ hk2 1 _ _ _ _ _ _ _ _ _ _ (Or.inr rfl) ⟨fun _ => hp, fun _ => rfl⟩ g hV2)
theorem sp_X5_idle (h : ab_MS z A) (hI : ab_I b A) (hV : ab_MV nsv svm S) (hSI : ∀ B ∈ S, ab_I b B)
    {Q : Int → Int → Int → Int → Int → Int → (Nat → Int) → (Nat → Int) → (Nat → Int) → (Nat → Int) → (Nat → Int) → (Nat → Int) → Prop}
    (hQ : ∀ nsv nvi low high z svm vi sr fr to, ab_MS z (ab_act A (-1)).2 → ab_MV nsv svm (ab_save S A) → Q (ab_act A (-1)).1 nsv 0 nvi low high z svm vi sr fr to) :
    wp_X5_idle nsv thr nvi low high z svm vi sr fr to Q := by
  unfold wp_X5_idle
  exact sp_X5_saveState h hI hV hSI (fun nsv svm hV2 => sp_X5_act h hI (a := -1) (Or.inl rfl) (Or.inr (Or.inr ⟨rfl, rfl⟩)) (fun nvi low high z2 vi sr fr to g => hQ _ _ _ _ _ _ _ _ _ _ g hV2))
end PL5
