/-! begin, abandon, set, the buffer, undo, snapshots -/
theorem ab_beg_L (A : aS) : as_L (ab_beg A) = ab_lst (as_T A).1 (as_T A).2 := by
  unfold ab_beg
  generalize ab_lst (as_T A).1 (as_T A).2 = l9
  rfl
section PM
variable {n nl nc nw ru ns : Int} {k d m ks ds ms li qu se co : Nat → Int} {A : aS} {b : Int} {nsv : Int} {sa : Nat → Nat → Nat} {sv : Nat → Nat → Nat → Int} {S : List aS} {E : Nat → Prop}
theorem sp_X4_begin (hC : ab_CS n k d m nl nc nw ru ns ks ds ms li qu se co A) (hI : ab_I b A) (hV : ab_CV nsv sv S) {pr : Nat → Int}
    {Q : Int → Int → Int → Int → Int → Int → Int → (Nat → Int) → (Nat → Int) → (Nat → Nat → Nat) → (Nat → Nat → Nat → Int) → (Nat → Int) → Prop} (h0 : as_R A = 1 → E 1)
    (hQ : as_R A = 0 → ∀ nsv nl nc nw ru ns li co sa sv pr, ab_CS n k d m nl nc nw ru ns ks ds ms li qu se co (ab_beg A) → ab_CV nsv sv (ab_save S A) → Q (((ab_lst (as_T A).1 (as_T A).2).length : Nat) : Int) nsv nl nc nw ru ns li co sa sv pr) :
    wp_X4_begin nsv n k d m nl nc nw ru ns ks ds ms li qu se co sa sv pr Q E := by
  have hru := ab_CS_ru hC
  have hr01 := hI.2.2.1.2.2.2
  unfold wp_X4_begin
  refine ⟨by omega, fun h => ?_, fun h => h0 (by omega)⟩
  refine sp_X4_saveState hC hI hV (fun nsv sa sv hV2 => sp_X4_beginJob hC hI (fun nl nc nw ru ns li co pr g => ?_))
  have e := g.2.1.2.1
  rw [ab_beg_L] at e
  have := hQ (by omega) _ _ _ _ _ _ _ _ sa sv pr g hV2
  rw [← e] at this
  exact this
theorem sp_X4_abandon (hC : ab_CS n k d m nl nc nw ru ns ks ds ms li qu se co A) (hI : ab_I b A) (hV : ab_CV nsv sv S)
    {Q : Int → Int → Int → Int → Int → Int → Int → (Nat → Int) → (Nat → Nat → Nat) → (Nat → Nat → Nat → Int) → Prop} (h0 : as_R A = 0 → E 1)
    (hQ : as_R A = 1 → ∀ nsv nl nc nw ru ns co sa sv, ab_CS n k d m nl nc nw ru ns ks ds ms li qu se co (ab_abn A) → ab_CV nsv sv (ab_save S A) → Q (as_C A : Int) nsv nl nc nw ru ns co sa sv) :
    wp_X4_abandon nsv n k d m nl nc nw ru ns ks ds ms li qu se co sa sv Q E := by
  have hru := ab_CS_ru hC
  have hr01 := hI.2.2.1.2.2.2
  have hnc := hC.2.1.2.2.1
  unfold wp_X4_abandon
  refine ⟨by omega, fun h => ?_, fun h => h0 (by omega)⟩
  refine sp_X4_saveState hC hI hV (fun nsv sa sv hV2 => sp_X4_abandonJob hC (fun nl nc nw ru ns co g => ?_))
  rw [hnc]
  exact hQ (by omega) _ _ _ _ _ _ _ _ _ g hV2
/-- a value of a setting -/
def ab_val (s v : Int) : Prop := (s = 0 → 10 ≤ v ∧ v ≤ 100) ∧ (s = 1 → 3 ≤ v ∧ v ≤ 40) ∧ (s = 2 → 1 ≤ v ∧ v ≤ 8)
def ab_set (A : aS) (s v : Int) : aS := (as_T A, as_U A, (as_L A, as_C A, as_Q A, as_R A), uI (as_E A) s.toNat v, as_N A)
theorem ab_I_set (h : ab_I b A) {s v : Int} (hs : 0 ≤ s ∧ s < 3) (hv : ab_val s v) : ab_I b (ab_set A s v) := by
  obtain ⟨h1, h2, h3, h4, h5, h6, h7⟩ := h
  obtain ⟨v1, v2, v3⟩ := hv
  refine ⟨h1, h2, h3, h4, h5, ?_, h7⟩
  show (10 ≤ uI (as_E A) s.toNat v 0 ∧ uI (as_E A) s.toNat v 0 ≤ 100) ∧ (3 ≤ uI (as_E A) s.toNat v 1 ∧ uI (as_E A) s.toNat v 1 ≤ 40) ∧ (1 ≤ uI (as_E A) s.toNat v 2 ∧ uI (as_E A) s.toNat v 2 ≤ 8)
  rcases (show s = 0 ∨ s = 1 ∨ s = 2 by omega) with q | q | q
  · subst q
    have := v1 rfl
    rw [show (0 : Int).toNat = 0 from rfl, uI_eq, uI_ne (by decide), uI_ne (by decide)]
    exact ⟨this, h6.2.1, h6.2.2⟩
  · subst q
    have := v2 rfl
    rw [show (1 : Int).toNat = 1 from rfl, uI_eq, uI_ne (by decide), uI_ne (by decide)]
    exact ⟨h6.1, this, h6.2.2⟩
  · subst q
    have := v3 rfl
    rw [show (2 : Int).toNat = 2 from rfl, uI_eq, uI_ne (by decide), uI_ne (by decide)]
    exact ⟨h6.1, h6.2.1, this⟩
theorem sp_X4_set (hC : ab_CS n k d m nl nc nw ru ns ks ds ms li qu se co A) (hI : ab_I b A) (hV : ab_CV nsv sv S) {s v : Int} (hs : inR s) (hv : inR v)
    {Q : Int → Int → (Nat → Int) → (Nat → Nat → Nat) → (Nat → Nat → Nat → Int) → Prop} (h0 : ¬ (0 ≤ s ∧ s < 3) → E 2) (h1 : 0 ≤ s ∧ s < 3 → ¬ ab_val s v → E 0)
    (hQ : 0 ≤ s ∧ s < 3 → ab_val s v → ∀ nsv se sa sv, ab_CS n k d m nl nc nw ru ns ks ds ms li qu se co (ab_set A s v) → ab_CV nsv sv (ab_save S A) → Q (as_E A s.toNat) nsv se sa sv) :
    wp_X4_set nsv n k d m nl nc nw ru ns ks ds ms li qu se co sa sv s v Q E := by
  unfold wp_X4_set
  refine sp_X4_checkSetting hs h0 (fun hs2 => ?_)
  have key : ∀ lo hi : Int, ta_LEAST_VALUES s.toNat = lo → ta_GREATEST_VALUES s.toNat = hi → (1 ≤ lo ∧ lo ≤ 10 ∧ hi ≤ 100) → (ab_val s v ↔ lo ≤ v ∧ v ≤ hi) → ((0 ≤ s ∧ s < 3) ∧ inR v ∧ inR (ta_LEAST_VALUES s.toNat) ∧ (v < ta_LEAST_VALUES s.toNat → E 0) ∧ (¬ (v < ta_LEAST_VALUES s.toNat) → (0 ≤ s ∧ s < 3) ∧ inR v ∧ inR (ta_GREATEST_VALUES s.toNat) ∧ (v ≤ ta_GREATEST_VALUES s.toNat → wp_X4_saveState nsv n k d m nl nc nw ru ns ks ds ms li qu se co sa sv (fun nsv_2 sa_2 sv_2 => (0 ≤ s ∧ s < 3) ∧ (0 ≤ s ∧ s < 3) ∧ Q (se s.toNat) nsv_2 (uI se (s.toNat) v) sa_2 sv_2)) ∧ (¬ (v ≤ ta_GREATEST_VALUES s.toNat) → E 0))) := by
    intro lo hi e1 e2 hr hval
    rw [e1, e2]
    by_cases hge : 0 ≤ hi
    · refine ⟨hs2, hv, by omega, fun h => h1 hs2 (fun q => by have := hval.mp q; omega), fun h => ⟨hs2, hv, by omega, fun h2 => ?_, fun h2 => h1 hs2 (fun q => by have := hval.mp q; omega)⟩⟩
      refine sp_X4_saveState hC hI hV (fun nsv sa sv hV2 => ⟨hs2, hs2, ?_⟩)
      have e3 : se s.toNat = as_E A s.toNat := hC.2.2.1 _ (by omega)
      rw [e3]
      refine hQ hs2 (hval.mpr (by omega)) _ _ _ _ ⟨hC.1, hC.2.1, fun i hi => ?_, hC.2.2.2⟩ hV2
      show uI se s.toNat v i = uI (as_E A) s.toNat v i
      unfold uI
      split
      · rfl
      · exact hC.2.2.1 i hi
    · exfalso
      rcases (show s = 0 ∨ s = 1 ∨ s = 2 by omega) with q | q | q <;> · subst q; simp [ta_GREATEST_VALUES] at e2; omega
  unfold ab_val at key
  rcases (show s = 0 ∨ s = 1 ∨ s = 2 by omega) with q | q | q
  · subst q
    exact key 10 100 rfl rfl (by decide) (by omega)
  · subst q
    exact key 3 40 rfl rfl (by decide) (by omega)
  · subst q
    exact key 1 8 rfl rfl (by decide) (by omega)
/-- the buffer -/
def ab_CT (le : Int) (ch : Nat → Int) (X : List Int) : Prop := le = (X.length : Int) ∧ X.length ≤ 60 ∧ ab_ar ch X ∧ ∀ c ∈ X, 33 ≤ c ∧ c ≤ 126
theorem ab_ar_app {f : Nat → Int} {X : List Int} {v : Int} (h : ab_ar f X) : ab_ar (uI f X.length v) (X ++ [v]) := by
  intro j y hj
  unfold uI
  by_cases hj2 : j < X.length
  · rw [if_neg (by omega)]
    rw [List.getElem?_append_left hj2] at hj
    exact h j y hj
  · rw [List.getElem?_append_right (by omega)] at hj
    have hlt := (List.getElem?_eq_some_iff.mp hj).1
    simp at hlt
    rw [show j - X.length = 0 by omega] at hj
    rw [if_pos (by omega)]
    simpa using hj
theorem ab_CT_app {le : Int} {ch : Nat → Int} {X : List Int} {c : Int} (h : ab_CT le ch X) (hl : X.length < 60) (hc : 33 ≤ c ∧ c ≤ 126) : ab_CT (le + 1) (uI ch X.length c) (X ++ [c]) := by
  obtain ⟨h1, h2, h3, h4⟩ := h
  refine ⟨by simp; omega, by simp; omega, ab_ar_app h3, fun y hy => ?_⟩
  rcases List.mem_append.mp hy with hy | hy
  · exact h4 y hy
  · have : y = c := by simpa using hy
    omega
theorem sp_X4_append {le : Int} {ch : Nat → Int} {X : List Int} (h : ab_CT le ch X) {c : Int} (hc : inR c) {Q : Int → Int → (Nat → Int) → Prop}
    (h0 : ¬ (33 ≤ c ∧ c ≤ 126) → E 0) (h1 : 33 ≤ c ∧ c ≤ 126 → X.length = 60 → E 1) (hQ : 33 ≤ c ∧ c ≤ 126 → X.length ≠ 60 → ∀ le ch, ab_CT le ch (X ++ [c]) → Q ((X.length : Int) + 1) le ch) : wp_X4_append le ch c Q E := by
  have h2 := h.2.1
  have h3 := h.1
  unfold wp_X4_append wp_X0_put
  refine ⟨hc, fun q => h0 (by omega), fun q => ⟨hc, fun q2 => ⟨by omega, fun q3 => ⟨by omega, fun q4 => by omega, fun q4 => ⟨by omega, by omega, by omega, ?_⟩⟩, fun q3 => h1 (by omega) (by omega)⟩, fun q2 => h0 (by omega)⟩⟩
  have := hQ (by omega) (by omega) _ _ (ab_CT_app h (by omega) (c := c) (by omega))
  rw [show le.toNat = X.length by omega]
  rw [h3] at this ⊢
  exact this
/-- undo -/
theorem sp_X4_undo (hV : ab_CV nsv sv S) (hSI : ∀ B ∈ S, ab_I b B)
    {Q : Int → Int → Int → (Nat → Int) → (Nat → Int) → (Nat → Int) → Int → Int → Int → Int → Int → (Nat → Int) → (Nat → Int) → (Nat → Int) → (Nat → Int) → (Nat → Int) → (Nat → Int) → (Nat → Int) → Prop}
    (h0 : S = [] → E 1) (hQ : ∀ B, S.getLast? = some B → ∀ nsv n k d m nl nc nw ru ns ks ds ms li qu se co, ab_CS n k d m nl nc nw ru ns ks ds ms li qu se co B → ab_CV nsv sv S.dropLast → Q ((S.length : Int) - 1) nsv n k d m nl nc nw ru ns ks ds ms li qu se co) :
    wp_X4_undo nsv n k d m nl nc nw ru ns ks ds ms li qu se co sv Q E := by
  obtain ⟨v1, v2, v3⟩ := hV
  unfold wp_X4_undo
  refine ⟨by omega, fun h => ?_, fun h => h0 (List.length_eq_zero_iff.mp (by omega))⟩
  have hn : S.length - 1 < S.length := by omega
  have hB : S[S.length - 1]? = some S[S.length - 1] := List.getElem?_eq_getElem hn
  generalize S[S.length - 1] = B at hB
  have e : (nsv - 1).toNat = S.length - 1 := by omega
  rw [e]
  refine ⟨by omega, by omega, sp_X2_becomeCopyOf (v3 _ B hB) (hSI B (List.mem_of_getElem? hB)) (fun k d m ks ds ms li qu se co g => ?_)⟩
  have := hQ B (by rw [List.getLast?_eq_getElem?]; exact hB) (nsv - 1) _ _ _ _ _ _ _ _ _ _ _ _ _ _ _ _ g ⟨by rw [List.length_dropLast]; omega, by rw [List.length_dropLast]; omega, fun i C hC => ?_⟩
  · rw [← v1] at this
    exact this
  · have hlt := (List.getElem?_eq_some_iff.mp hC).1
    rw [List.length_dropLast] at hlt
    rw [List.dropLast_eq_take, List.getElem?_take_of_lt (by omega)] at hC
    exact v3 i C hC
def ab_snap (P : Nat → Option aS) (s : Int) (A : aS) : Nat → Option aS := fun i => if i = s.toNat then some A else P i
theorem sp_X4_keep (hC : ab_CS n k d m nl nc nw ru ns ks ds ms li qu se co A) (hI : ab_I b A) {nv : Nat → Nat → Nat → Int} {sf : Nat → Int} {P : Nat → Option aS} (hN : ab_CN nv sf P) {s : Int} (hs : inR s)
    {Q : Int → (Nat → Nat → Nat → Int) → (Nat → Int) → Prop} (h0 : ¬ (0 ≤ s ∧ s < 2) → E 0) (hQ : 0 ≤ s ∧ s < 2 → ∀ nv sf, ab_CN nv sf (ab_snap P s A) → Q (ab_np (as_T A).1 (as_T A).2) nv sf) :
    wp_X4_keep n k d m nl nc nw ru ns ks ds ms li qu se co nv sf s Q E := by
  unfold wp_X4_keep
  refine sp_X4_checkSlot hs h0 (fun hs2 => ⟨hs2, by omega, sp_X2_becomeCopyOf hC hI (fun k d m ks ds ms li qu se co g => ⟨hs2, sp_X3_presentKeys hC.1 hI.1 (hQ hs2 _ _ (fun i hi => ?_))⟩)⟩)
  unfold ab_snap upS uI
  by_cases h : i = s.toNat
  · rw [if_pos h, if_pos h, if_pos h]
    refine ⟨Or.inr rfl, ⟨fun q => absurd q (by decide), fun q => absurd q (by simp)⟩, fun B hB => ?_⟩
    have : A = B := Option.some.inj hB
    rw [← this]
    exact ab_CU_mk g
  · rw [if_neg h, if_neg h, if_neg h]
    exact hN i hi
theorem sp_X4_goBack (hC : ab_CS n k d m nl nc nw ru ns ks ds ms li qu se co A) (hI : ab_I b A) (hV : ab_CV nsv sv S) {nv : Nat → Nat → Nat → Int} {sf : Nat → Int} {P : Nat → Option aS} (hN : ab_CN nv sf P) (hPI : ∀ i B, i < 2 → P i = some B → ab_I b B) {s : Int} (hs : inR s)
    {Q : Int → Int → Int → (Nat → Int) → (Nat → Int) → (Nat → Int) → Int → Int → Int → Int → Int → (Nat → Int) → (Nat → Int) → (Nat → Int) → (Nat → Int) → (Nat → Int) → (Nat → Int) → (Nat → Int) → (Nat → Nat → Nat) → (Nat → Nat → Nat → Int) → Prop}
    (h0 : ¬ (0 ≤ s ∧ s < 2) → E 0) (h1 : 0 ≤ s ∧ s < 2 → P s.toNat = none → E 1)
    (hQ : 0 ≤ s ∧ s < 2 → ∀ B, P s.toNat = some B → ∀ nsv n k d m nl nc nw ru ns ks ds ms li qu se co sa sv, ab_CS n k d m nl nc nw ru ns ks ds ms li qu se co B → ab_CV nsv sv (ab_save S A) → Q (ab_np (as_T B).1 (as_T B).2) nsv n k d m nl nc nw ru ns ks ds ms li qu se co sa sv) :
    wp_X4_goBack nsv n k d m nl nc nw ru ns ks ds ms li qu se co sa sv nv sf s Q E := by
  unfold wp_X4_goBack
  refine sp_X4_checkSlot hs h0 (fun hs2 => ?_)
  obtain ⟨n1, n2, n3⟩ := hN s.toNat (by omega)
  refine ⟨hs2, by omega, fun h => ?_, fun h => h1 hs2 (n2.mp (by omega))⟩
  cases hP : P s.toNat with
  | none => exact absurd (n2.mpr hP) h
  | some B =>
    have hBI := hPI _ B (by omega) hP
    refine sp_X4_saveState hC hI hV (fun nsv sa sv hV2 => ⟨hs2, by omega, sp_X2_becomeCopyOf (n3 B hP) hBI (fun k d m ks ds ms li qu se co g => sp_X3_presentKeys g.1 hBI.1 ?_)⟩)
    exact hQ hs2 B hP _ _ _ _ _ _ _ _ _ _ _ _ _ _ _ _ _ _ _ g hV2
end PM
section PM5
variable {z : Nat → Int} {A : aS} {b : Int} {nsv thr nvi low high : Int} {svm vi sr fr to : Nat → Int} {S : List aS}
theorem ab_MS_set (h : ab_MS z A) (hI : ab_I b A) {s v : Int} (hs : 0 ≤ s ∧ s < 3) {z2 : Nat → Int} (h1 : z2 (636 + s.toNat) = v) (hf : ∀ j, j < 646 → j ≠ 636 + s.toNat → z2 j = z j) : ab_MS z2 (ab_set A s v) := by
  obtain ⟨k1, k2, ⟨k3, k4, k5, k6⟩, ⟨k7, k8⟩, k9, k10⟩ := h
  have i3 := hI.2.2.1
  refine ⟨ab_mT_congr k1 hI.1 (fun j a b => hf j (by omega) (by omega)), ab_mT_congr k2 hI.2.1 (fun j a b => hf j (by omega) (by omega)), ⟨?_, ?_, ?_, ?_⟩, ⟨fun p x hx => ?_, fun p x hx => ?_⟩, fun i hi => ?_, fun i hi => ?_⟩
  · rw [hf _ (by omega) (by omega)]; exact k3
  · rw [hf _ (by omega) (by omega)]; exact k4
  · rw [hf _ (by omega) (by omega)]; exact k5
  · rw [hf _ (by omega) (by omega)]; exact k6
  · have hlt : p < (as_L A).length := (List.getElem?_eq_some_iff.mp hx).1
    rw [hf _ (by omega) (by omega)]; exact k7 p x hx
  · have hlt : p < (as_Q A).length := (List.getElem?_eq_some_iff.mp hx).1
    rw [hf _ (by omega) (by omega)]; exact k8 p x hx
  · show z2 (636 + i) = uI (as_E A) s.toNat v i
    unfold uI
    split
    · rename_i q; rw [q]; exact h1
    · rw [hf _ (by omega) (by omega)]; exact k9 i hi
  · rw [hf _ (by omega) (by omega)]; exact k10 i hi
end PM5
