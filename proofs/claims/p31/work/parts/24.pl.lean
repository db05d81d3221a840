/-! saved states and snapshots -/
def ab_CU (u : Nat → Nat → Int) (A : aS) : Prop := ab_CS (u 0 0) (u 1) (u 2) (u 3) (u 4 0) (u 5 0) (u 6 0) (u 7 0) (u 8 0) (u 9) (u 10) (u 11) (u 12) (u 13) (u 14) (u 15) A
def ab_CV (nsv : Int) (sv : Nat → Nat → Nat → Int) (S : List aS) : Prop := nsv = (S.length : Int) ∧ S.length ≤ 6 ∧ ∀ (i : Nat) (A : aS), S[i]? = some A → ab_CU (sv i) A
def ab_MV (nsv : Int) (sv : Nat → Int) (S : List aS) : Prop := nsv = (S.length : Int) ∧ S.length ≤ 6 ∧ ∀ (i : Nat) (A : aS), S[i]? = some A → ab_MS (fun k => sv (646 * i + k)) A
def ab_CN (nv : Nat → Nat → Nat → Int) (sf : Nat → Int) (P : Nat → Option aS) : Prop := ∀ i, i < 2 → (sf i = 0 ∨ sf i = 1) ∧ (sf i = 0 ↔ P i = none) ∧ ∀ A, P i = some A → ab_CU (nv i) A
def ab_MN (so : Nat → Int) (ik : Nat → Int) (P : Nat → Option aS) : Prop := ∀ i, i < 2 → (ik i = 0 ∨ ik i = 1) ∧ (ik i = 0 ↔ P i = none) ∧ ∀ A, P i = some A → ab_MS (fun k => so (646 * i + k)) A
def ab_save (S : List aS) (A : aS) : List aS := (if S.length = 6 then S.drop 1 else S) ++ [A]
theorem ab_CU_mk {n nl nc nw ru ns : Int} {k d m ks ds ms li qu se co : Nat → Int} {A : aS} (h : ab_CS n k d m nl nc nw ru ns ks ds ms li qu se co A) : ab_CU (mkU n k d m nl nc nw ru ns ks ds ms li qu se co) A := h
theorem ab_MS_congr {z z2 : Nat → Int} {A : aS} {b : Int} (h : ab_MS z A) (hI : ab_I b A) (hz : ∀ j, j < 646 → z2 j = z j) : ab_MS z2 A := by
  obtain ⟨h1, h2, ⟨h3, h4, h5, h6⟩, ⟨h7, h8⟩, h9, h10⟩ := h
  have i3 := hI.2.2.1
  refine ⟨ab_mT_congr h1 hI.1 (fun j a b => hz j (by omega)), ab_mT_congr h2 hI.2.1 (fun j a b => hz j (by omega)), ⟨?_, ?_, ?_, ?_⟩, ⟨fun p x hx => ?_, fun p x hx => ?_⟩, fun i hi => ?_, fun i hi => ?_⟩
  · rw [hz _ (by omega)]; exact h3
  · rw [hz _ (by omega)]; exact h4
  · rw [hz _ (by omega)]; exact h5
  · rw [hz _ (by omega)]; exact h6
  · have hlt : p < (as_L A).length := (List.getElem?_eq_some_iff.mp hx).1
    rw [hz _ (by omega)]; exact h7 p x hx
  · have hlt : p < (as_Q A).length := (List.getElem?_eq_some_iff.mp hx).1
    rw [hz _ (by omega)]; exact h8 p x hx
  · rw [hz _ (by omega)]; exact h9 i hi
  · rw [hz _ (by omega)]; exact h10 i hi
theorem ab_save_at {S : List aS} {A B : aS} {i : Nat} (hl : S.length ≤ 6) (h : (ab_save S A)[i]? = some B) : (i + 1 = (ab_save S A).length ∧ B = A) ∨ (i + 1 < (ab_save S A).length ∧ S[(if S.length = 6 then i + 1 else i)]? = some B) := by
  unfold ab_save at h ⊢
  have hlt := (List.getElem?_eq_some_iff.mp h).1
  rw [List.length_append, List.length_singleton] at hlt ⊢
  by_cases hi : i < (if S.length = 6 then S.drop 1 else S).length
  · rw [List.getElem?_append_left hi] at h
    right
    refine ⟨by omega, ?_⟩
    split at h
    · rename_i h6
      rw [if_pos h6]
      rw [List.getElem?_drop] at h
      rw [Nat.add_comm i 1]
      exact h
    · rename_i h6
      rw [if_neg h6]
      exact h
  · left
    rw [List.getElem?_append_right (by omega), show i - (if S.length = 6 then S.drop 1 else S).length = 0 by omega] at h
    refine ⟨by omega, ?_⟩
    have : A = B := by simpa using h
    exact this.symm
theorem ab_save_len {S : List aS} {A : aS} (hl : S.length ≤ 6) : (ab_save S A).length = (if S.length = 6 then 6 else S.length + 1) := by
  unfold ab_save
  rw [List.length_append, List.length_singleton]
  split
  · rw [List.length_drop]; omega
  · rfl
theorem ab_save_I {S : List aS} {A : aS} {b : Int} (hS : ∀ B ∈ S, ab_I b B) (hA : ab_I b A) : ∀ B ∈ ab_save S A, ab_I b B := by
  intro B hB
  unfold ab_save at hB
  rcases List.mem_append.mp hB with h | h
  · split at h
    · exact hS B (List.mem_of_mem_drop h)
    · exact hS B h
  · have : B = A := by simpa using h
    rw [this]; exact hA
section PL
variable {n nl nc nw ru ns : Int} {k d m ks ds ms li qu se co : Nat → Int} {A : aS} {b : Int} {nsv : Int} {sa : Nat → Nat → Nat} {sv : Nat → Nat → Nat → Int} {S : List aS}
theorem sp_X4_saveState (hC : ab_CS n k d m nl nc nw ru ns ks ds ms li qu se co A) (hI : ab_I b A) (hV : ab_CV nsv sv S) {Q : Int → (Nat → Nat → Nat) → (Nat → Nat → Nat → Int) → Prop}
    (hQ : ∀ nsv sa sv, ab_CV nsv sv (ab_save S A) → Q nsv sa sv) : wp_X4_saveState nsv n k d m nl nc nw ru ns ks ds ms li qu se co sa sv Q := by
  obtain ⟨v1, v2, v3⟩ := hV
  unfold wp_X4_saveState wp_X4_dropOldestState
  refine ⟨by omega, fun h => ?_, fun h => ?_⟩
  · unfold wp_X4_saveState_13
    have e : nsv.toNat = S.length := by omega
    rw [e]
    refine ⟨by omega, by omega, sp_X2_becomeCopyOf hC hI (fun k d m ks ds ms li qu se co g => hQ _ _ _ ⟨?_, ?_, fun i B hB => ?_⟩)⟩
    · rw [ab_save_len v2, if_neg (by omega)]; omega
    · rw [ab_save_len v2, if_neg (by omega)]; omega
    · have hl := ab_save_len (S := S) (A := A) v2
      rw [if_neg (by omega)] at hl
      rcases ab_save_at v2 hB with ⟨h1, rfl⟩ | ⟨h1, h2⟩
      · unfold upS
        rw [if_pos (by omega)]
        exact ab_CU_mk g
      · rw [if_neg (by omega)] at h2
        unfold upS
        rw [if_neg (by omega)]
        exact v3 i B h2
  · have hl6 : S.length = 6 := by omega
    show wp_X4_saveState_13 5 n k d m nl nc nw ru ns ks ds ms li qu se co (rotA sa) (rotS sv) Q
    unfold wp_X4_saveState_13
    have e : (5 : Int).toNat = 5 := rfl
    rw [e]
    refine ⟨by decide, by decide, sp_X2_becomeCopyOf hC hI (fun k d m ks ds ms li qu se co g => hQ _ _ _ ⟨?_, ?_, fun i B hB => ?_⟩)⟩
    · rw [ab_save_len v2, if_pos hl6]; rfl
    · rw [ab_save_len v2, if_pos hl6]; omega
    · have hl := ab_save_len (S := S) (A := A) v2
      rw [if_pos hl6] at hl
      rcases ab_save_at v2 hB with ⟨h1, rfl⟩ | ⟨h1, h2⟩
      · unfold upS
        rw [if_pos (by omega)]
        exact ab_CU_mk g
      · rw [if_pos hl6] at h2
        unfold upS rotS
        rw [if_neg (by omega), if_pos (by omega)]
        exact v3 (i + 1) B h2
/-! the checks of the class -/
theorem sp_X4_checkKey {x : Int} (hx : inR x) {Q : Prop} {E : Nat → Prop} (h0 : ¬ (0 ≤ x ∧ x < 500) → E 0) (h1 : 0 ≤ x ∧ x < 500 → Q) : wp_X4_checkKey x Q E := by
  unfold wp_X4_checkKey
  exact ⟨hx, fun h => h0 (by omega), fun h => ⟨hx, fun h2 => h1 (by omega), fun h2 => h0 (by omega)⟩⟩
theorem sp_X4_checkWhat {x g : Int} (hx : inR x) (hg : inR g) {Q : Prop} {E : Nat → Prop} (h0 : ¬ (0 ≤ x ∧ x ≤ g) → E 0) (h1 : 0 ≤ x ∧ x ≤ g → Q) : wp_X4_checkWhat x g Q E := by
  unfold wp_X4_checkWhat
  exact ⟨hx, fun h => h0 (by omega), fun h => ⟨hx, hg, fun h2 => h1 (by omega), fun h2 => h0 (by omega)⟩⟩
theorem sp_X4_checkSlot {x : Int} (hx : inR x) {Q : Prop} {E : Nat → Prop} (h0 : ¬ (0 ≤ x ∧ x < 2) → E 0) (h1 : 0 ≤ x ∧ x < 2 → Q) : wp_X4_checkSlot x Q E := by
  unfold wp_X4_checkSlot
  exact ⟨hx, fun h => h0 (by omega), fun h => ⟨hx, fun h2 => h1 (by omega), fun h2 => h0 (by omega)⟩⟩
theorem sp_X4_checkSpeed {x : Int} (hx : inR x) {Q : Prop} {E : Nat → Prop} (h0 : ¬ (1 ≤ x ∧ x ≤ 8) → E 0) (h1 : 1 ≤ x ∧ x ≤ 8 → Q) : wp_X4_checkSpeed x Q E := by
  unfold wp_X4_checkSpeed
  exact ⟨hx, fun h => h0 (by omega), fun h => ⟨hx, fun h2 => h1 (by omega), fun h2 => h0 (by omega)⟩⟩
theorem sp_X4_checkSetting {x : Int} (hx : inR x) {Q : Prop} {E : Nat → Prop} (h0 : ¬ (0 ≤ x ∧ x < 3) → E 2) (h1 : 0 ≤ x ∧ x < 3 → Q) : wp_X4_checkSetting x Q E := by
  unfold wp_X4_checkSetting
  exact ⟨hx, fun h => h0 (by omega), fun h => ⟨hx, fun h2 => h1 (by omega), fun h2 => h0 (by omega)⟩⟩
def ab_room1 (T : aT) (key : Int) : Prop := key ∈ T.1 ∨ T.1.length < 120
theorem sp_X4_hasNoRoomFor {T : aT} (hc : ab_cT n k d m T.1 T.2) (hg : ab_g T.1 T.2) {key : Int} (hk : 0 ≤ key ∧ key < 500) {Q : Int → Prop} (h0 : ab_room1 T key → Q 0) (h1 : ¬ ab_room1 T key → Q 1) : wp_X4_hasNoRoomFor n k key Q := by
  have hn := hc.1
  have hl := hg.2.2.1
  unfold wp_X4_hasNoRoomFor
  unfold ab_room1 at h0 h1
  refine ⟨by omega, fun h => h0 (Or.inr (by omega)), fun h => sp_X3_hasNode hc hg hk (fun hm => ⟨by decide, fun q => absurd rfl q, fun _ => h1 (fun q => q.elim hm (by omega))⟩) (fun hm => ⟨by decide, fun _ => h0 (Or.inl hm), fun q => absurd (by decide) q⟩)⟩
/-! add, remove, idle -/
theorem sp_X4_add (hC : ab_CS n k d m nl nc nw ru ns ks ds ms li qu se co A) (hI : ab_I b A) (hV : ab_CV nsv sv S) {key : Int} (hk : inR key) {pr : Nat → Int}
    {Q : Int → Int → Int → (Nat → Int) → (Nat → Int) → (Nat → Int) → Int → Int → Int → Int → Int → (Nat → Int) → (Nat → Int) → (Nat → Int) → (Nat → Int) → (Nat → Int) → (Nat → Int) → (Nat → Nat → Nat) → (Nat → Nat → Nat → Int) → (Nat → Int) → Prop} {E : Nat → Prop}
    (h0 : ¬ (0 ≤ key ∧ key < 500) → E 0) (h1 : 0 ≤ key ∧ key < 500 → ¬ ab_room1 (as_T A) key → E 1)
    (hQ : 0 ≤ key ∧ key < 500 → ab_room1 (as_T A) key → ∀ r nsv n k d m nl nc nw ru ns ks ds ms li qu co sa sv pr, (r = 0 ∨ r = 1) → (r = 1 ↔ ¬ ab_pres (as_T A) key) → ab_CS n k d m nl nc nw ru ns ks ds ms li qu se co (ab_act A key).2 → ab_CV nsv sv (ab_save S A) → Q r nsv n k d m nl nc nw ru ns ks ds ms li qu co sa sv pr) :
    wp_X4_add nsv n k d m nl nc nw ru ns ks ds ms li qu se co sa sv pr key Q E := by
  unfold wp_X4_add
  refine sp_X4_checkKey hk h0 (fun hk2 => sp_X4_hasNoRoomFor hC.1 hI.1 hk2 (fun hr => ⟨by decide, fun _ => ?_, fun q => absurd rfl q⟩) (fun hr => ⟨by decide, fun q => absurd q (by decide), fun _ => h1 hk2 hr⟩))
  refine sp_X4_saveState hC hI hV (fun nsv sa sv hV2 => sp_X4_perform hC hI (Or.inr (Or.inl ⟨hk2.1, hk2.2, hr⟩)) (fun r n k d m nl nc nw ru ns ks ds ms li qu co pr hr01 hrc g => ?_))
  have hrc2 := hrc (by omega)
  unfold ab_chg at hrc2
  rw [if_pos (by omega)] at hrc2
  refine ⟨by omega, fun h => ?_, fun h => ?_⟩
  · have := hQ hk2 hr r nsv n k d m nl nc nw ru ns ks ds ms li qu co sa sv pr hr01 hrc2 g hV2
    rw [h] at this
    exact this
  · have h1 : r = 1 := by omega
    have := hQ hk2 hr r nsv n k d m nl nc nw ru ns ks ds ms li qu co sa sv pr hr01 hrc2 g hV2
    rw [h1] at this
    exact this
theorem sp_X4_remove (hC : ab_CS n k d m nl nc nw ru ns ks ds ms li qu se co A) (hI : ab_I b A) (hV : ab_CV nsv sv S) {key : Int} (hk : inR key) {pr : Nat → Int}
    {Q : Int → Int → Int → (Nat → Int) → (Nat → Int) → (Nat → Int) → Int → Int → Int → Int → Int → (Nat → Int) → (Nat → Int) → (Nat → Int) → (Nat → Int) → (Nat → Int) → (Nat → Int) → (Nat → Nat → Nat) → (Nat → Nat → Nat → Int) → (Nat → Int) → Prop} {E : Nat → Prop}
    (h0 : ¬ (0 ≤ key ∧ key < 500) → E 0)
    (hQ : 0 ≤ key ∧ key < 500 → ∀ r nsv n k d m nl nc nw ru ns ks ds ms li qu co sa sv pr, (r = 0 ∨ r = 1) → (r = 1 ↔ ab_pres (as_T A) key) → ab_CS n k d m nl nc nw ru ns ks ds ms li qu se co (ab_act A (key + 500)).2 → ab_CV nsv sv (ab_save S A) → Q r nsv n k d m nl nc nw ru ns ks ds ms li qu co sa sv pr) :
    wp_X4_remove nsv n k d m nl nc nw ru ns ks ds ms li qu se co sa sv pr key Q E := by
  unfold wp_X4_remove
  refine sp_X4_checkKey hk h0 (fun hk2 => ?_)
  refine sp_X4_saveState hC hI hV (fun nsv sa sv hV2 => sp_X4_perform hC hI (Or.inr (Or.inr ⟨by omega, by omega⟩)) (fun r n k d m nl nc nw ru ns ks ds ms li qu co pr hr01 hrc g => ?_))
  have hrc2 := hrc (by omega)
  unfold ab_chg at hrc2
  rw [if_neg (by omega), show key + 500 - 500 = key by omega] at hrc2
  refine ⟨by omega, fun h => ?_, fun h => ?_⟩
  · have := hQ hk2 r nsv n k d m nl nc nw ru ns ks ds ms li qu co sa sv pr hr01 hrc2 g hV2
    rw [h] at this
    exact this
  · have h1 : r = 1 := by omega
    have := hQ hk2 r nsv n k d m nl nc nw ru ns ks ds ms li qu co sa sv pr hr01 hrc2 g hV2
    rw [h1] at this
    exact this
theorem ab_act_N0 (A : aS) (a : Int) : as_N (ab_act A a).2 0 = (ab_act A a).1 := by
  unfold ab_act
  split <;> rfl
theorem sp_X4_idle (hC : ab_CS n k d m nl nc nw ru ns ks ds ms li qu se co A) (hI : ab_I b A) (hV : ab_CV nsv sv S) {pr : Nat → Int}
    {Q : Int → Int → Int → (Nat → Int) → (Nat → Int) → (Nat → Int) → Int → Int → Int → Int → Int → (Nat → Int) → (Nat → Int) → (Nat → Int) → (Nat → Int) → (Nat → Int) → (Nat → Int) → (Nat → Nat → Nat) → (Nat → Nat → Nat → Int) → (Nat → Int) → Prop}
    (hQ : ∀ nsv n k d m nl nc nw ru ns ks ds ms li qu co sa sv pr, ab_CS n k d m nl nc nw ru ns ks ds ms li qu se co (ab_act A (-1)).2 → ab_CV nsv sv (ab_save S A) → Q (ab_act A (-1)).1 nsv n k d m nl nc nw ru ns ks ds ms li qu co sa sv pr) :
    wp_X4_idle nsv n k d m nl nc nw ru ns ks ds ms li qu se co sa sv pr Q := by
  unfold wp_X4_idle
  refine sp_X4_saveState hC hI hV (fun nsv sa sv hV2 => sp_X4_perform hC hI (Or.inl rfl) (fun r n k d m nl nc nw ru ns ks ds ms li qu co pr hr01 hrc g => ?_))
  have e : co 0 = (ab_act A (-1)).1 := by
    rw [g.2.2.2 0 (by decide)]
    exact ab_act_N0 A (-1)
  rw [e]
  exact hQ _ _ _ _ _ _ _ _ _ _ _ _ _ _ _ _ _ _ _ g hV2
end PL
section PL5
variable {z : Nat → Int} {A : aS} {b : Int} {nsv thr nvi low high : Int} {svm vi sr fr to : Nat → Int} {S : List aS}
end PL5
