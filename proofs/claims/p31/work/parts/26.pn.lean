/-! the queries, on both sides -/
def ab_nr (T : aT) (key w r : Int) : Prop := if w = 0 then ab_le T.1 T.2 key r else if w = 1 then ab_ge T.1 T.2 key r else if w = 2 then ab_le T.1 T.2 (key - 1) r else ab_ge T.1 T.2 (key + 1) r
theorem ab_le_un {T : aT} (hg : ab_g T.1 T.2) {lim r1 r2 : Int} (h1 : ab_le T.1 T.2 lim r1) (h2 : ab_le T.1 T.2 lim r2) : r1 = r2 := by
  rcases h1 with ⟨a1, a2⟩ | ⟨a1, a2, a3, a4⟩ <;> rcases h2 with ⟨b1, b2⟩ | ⟨b1, b2, b3, b4⟩
  · omega
  · exact absurd b3 (a2 _ b1 b2)
  · exact absurd a3 (b2 _ a1 a2)
  · have x := a4 r2 b1 b2 b3
    have y := b4 r1 a1 a2 a3
    omega
theorem ab_ge_un {T : aT} (hg : ab_g T.1 T.2) {lim r1 r2 : Int} (h1 : ab_ge T.1 T.2 lim r1) (h2 : ab_ge T.1 T.2 lim r2) : r1 = r2 := by
  rcases h1 with ⟨a1, a2⟩ | ⟨a1, a2, a3, a4⟩ <;> rcases h2 with ⟨b1, b2⟩ | ⟨b1, b2, b3, b4⟩
  · omega
  · exact absurd b3 (a2 _ b1 b2)
  · exact absurd a3 (b2 _ a1 a2)
  · have x := a4 r2 b1 b2 b3
    have y := b4 r1 a1 a2 a3
    omega
theorem ab_nr_un {T : aT} (hg : ab_g T.1 T.2) {key w r1 r2 : Int} (h1 : ab_nr T key w r1) (h2 : ab_nr T key w r2) : r1 = r2 := by
  unfold ab_nr at h1 h2
  by_cases w0 : w = 0
  · rw [if_pos w0] at h1 h2; exact ab_le_un hg h1 h2
  · rw [if_neg w0] at h1 h2
    by_cases w1 : w = 1
    · rw [if_pos w1] at h1 h2; exact ab_ge_un hg h1 h2
    · rw [if_neg w1] at h1 h2
      by_cases w2 : w = 2
      · rw [if_pos w2] at h1 h2; exact ab_le_un hg h1 h2
      · rw [if_neg w2] at h1 h2; exact ab_ge_un hg h1 h2
/-- the least depth for many keys -/
def ab_ldf : Nat → Int → Int → Int → Int
  | 0, _, d, _ => d
  | f + 1, keys, d, room => if room ≥ keys then d else ab_ldf f keys (d + 1) (2 * room + 1)
def ab_tr (T : aT) (w : Int) : Int := if w = 0 then (T.1.length : Int) else if w = 1 then ab_np T.1 T.2 else if w = 2 then (T.1.length : Int) - ab_np T.1 T.2 else if w = 3 then ab_dmax T.1 else if w = 4 then ab_dsum T.1 else if w = 5 then ab_lvs T.1 else ab_ldf 120 (ab_np T.1 T.2) 0 0
noncomputable def ab_reb (A : aS) (w : Int) : Int := if as_R A = 0 then (if w = 4 then -1 else 0) else if w = 0 then (if as_C A < (as_L A).length then 1 else 2) else if w = 1 then ((as_L A).length : Int) else if w = 2 then (as_C A : Int) else if w = 3 then ((as_Q A).length : Int)
  else if w = 4 then (if as_C A < (as_L A).length then (as_L A).getD (as_C A) 0 else -1) else ab_alone (as_T A).1 (as_T A).2 (as_U A).1 (as_U A).2
theorem sp_X4_leastDepthFor {keys : Int} (hk : 0 ≤ keys ∧ keys ≤ 120) {Q : Int → Prop} (hQ : Q (ab_ldf 120 keys 0 0)) : wp_X4_leastDepthFor keys Q := by
  have main : ∀ (f : Nat) (d room : Int), keys - room ≤ (f : Int) → 0 ≤ room → room ≤ 300 → Q (ab_ldf f keys d room) → lq2 (wp_X4_leastDepthFor_4 keys Q) (f + 1) d room := by
    intro f
    induction f with
    | zero =>
      intro d room h1 h2 h3 q
      show wp_X4_leastDepthFor_4 keys Q (lq2 (wp_X4_leastDepthFor_4 keys Q) 0) d room
      unfold wp_X4_leastDepthFor_4
      exact ⟨by omega, by omega, fun _ => q, fun h => absurd (by omega) h⟩
    | succ f ih =>
      intro d room h1 h2 h3 q
      show wp_X4_leastDepthFor_4 keys Q (lq2 (wp_X4_leastDepthFor_4 keys Q) (f + 1)) d room
      generalize lq2 (wp_X4_leastDepthFor_4 keys Q) (f + 1) = K at ih ⊢
      unfold ab_ldf at q
      unfold wp_X4_leastDepthFor_4
      refine ⟨by omega, by omega, fun h => ?_, fun h => ?_⟩
      · rw [if_pos h] at q; exact q
      · rw [if_neg h] at q
        exact ih _ _ (by omega) (by omega) (by omega) q
  unfold wp_X4_leastDepthFor
  exact ⟨_, main 120 0 0 (by omega) (by decide) (by decide) hQ⟩
section PN
variable {n nl nc nw ru ns : Int} {k d m ks ds ms li qu se co : Nat → Int} {A : aS} {b : Int} {nsv : Int} {E : Nat → Prop}
theorem sp_X4_contains (hC : ab_CS n k d m nl nc nw ru ns ks ds ms li qu se co A) (hI : ab_I b A) {key : Int} (hk : inR key) {Q : Int → Prop} (h0 : ¬ (0 ≤ key ∧ key < 500) → E 0)
    (hQ : 0 ≤ key ∧ key < 500 → ∀ r, (r = 0 ∨ r = 1) → (r = 1 ↔ ab_pres (as_T A) key) → Q r) : wp_X4_contains n k m key Q E := by
  unfold wp_X4_contains
  exact sp_X4_checkKey hk h0 (fun hk2 => sp_X3_hasPresent hC.1 hI.1 hk2 (fun hn => ⟨Or.inl rfl, hQ hk2 0 (Or.inl rfl) ⟨fun q => absurd q (by decide), fun q => absurd q hn⟩⟩) (fun hp => ⟨Or.inr rfl, hQ hk2 1 (Or.inr rfl) ⟨fun _ => hp, fun _ => rfl⟩⟩))
theorem sp_X4_near (hC : ab_CS n k d m nl nc nw ru ns ks ds ms li qu se co A) (hI : ab_I b A) {key w : Int} (hk : inR key) (hw : inR w) {Q : Int → Prop} (h0 : ¬ ((0 ≤ key ∧ key < 500) ∧ 0 ≤ w ∧ w ≤ 3) → E 0)
    (hQ : (0 ≤ key ∧ key < 500) ∧ 0 ≤ w ∧ w ≤ 3 → ∀ r, ab_nr (as_T A) key w r → Q r) : wp_X4_near n k m key w Q E := by
  unfold wp_X4_near
  refine sp_X4_checkKey hk (fun q => h0 (fun q2 => q q2.1)) (fun hk2 => sp_X4_checkWhat hw (by decide) (fun q => h0 (fun q2 => q q2.2)) (fun hw2 => ?_))
  have hQ2 := hQ ⟨hk2, hw2⟩
  unfold ab_nr at hQ2
  refine ⟨hw, fun h => ?_, fun h => ?_, fun h => ?_, fun h => ?_⟩
  · rw [show w = 0 from h] at hQ2
    exact sp_X3_greatestUpTo hC.1 hI.1 hk (fun r hr => hQ2 r (by rw [if_pos rfl]; exact hr))
  · rw [show w = 1 from h] at hQ2
    exact sp_X3_leastFrom hC.1 hI.1 hk (fun r hr => hQ2 r (by rw [if_neg (by decide), if_pos rfl]; exact hr))
  · rw [show w = 2 from h] at hQ2
    exact sp_X3_greatestUpTo hC.1 hI.1 (by omega) (fun r hr => hQ2 r (by rw [if_neg (by decide), if_neg (by decide), if_pos rfl]; exact hr))
  · exact sp_X3_leastFrom hC.1 hI.1 (by omega) (fun r hr => hQ2 r (by rw [if_neg (by omega), if_neg (by omega), if_neg (by omega)]; exact hr))
theorem sp_X4_rank (hC : ab_CS n k d m nl nc nw ru ns ks ds ms li qu se co A) (hI : ab_I b A) {key : Int} (hk : inR key) {Q : Int → Prop} (h0 : ¬ (0 ≤ key ∧ key < 500) → E 0)
    (hQ : 0 ≤ key ∧ key < 500 → Q (ab_rank (as_T A).1 (as_T A).2 key)) : wp_X4_rank n k m key Q E := by
  unfold wp_X4_rank
  exact sp_X4_checkKey hk h0 (fun hk2 => sp_X3_presentBelow hC.1 hI.1 hk (hQ hk2))
theorem sp_X4_keyAt (hC : ab_CS n k d m nl nc nw ru ns ks ds ms li qu se co A) (hI : ab_I b A) {rk : Int} (hk : inR rk) {pr : Nat → Int} {Q : Int → (Nat → Int) → Prop} (h0 : rk < 0 → E 0)
    (hQ : 0 ≤ rk → ∀ r pr, ab_kat (as_T A).1 (as_T A).2 rk r → Q r pr) : wp_X4_keyAt n k m pr rk Q E := by
  unfold wp_X4_keyAt
  refine ⟨hk, fun h => sp_X3_tellPresence hC.1 hI.1 (fun a ha => ?_), fun h => h0 (by omega)⟩
  have hl := hI.1.2.2.1
  have main : ∀ (j q : Nat), q + j = 500 → (∀ y ∈ (as_T A).1, (as_T A).2 y = 0 → y < (q : Int) → ab_rank (as_T A).1 (as_T A).2 y ≠ rk) → lq2 (wp_X4_keyAt_32 n k m a rk Q E) (j + 1) (ab_rank (as_T A).1 (as_T A).2 (q : Int)) (q : Int) := by
    intro j
    induction j with
    | zero =>
      intro q hq hn
      show wp_X4_keyAt_32 n k m a rk Q E (lq2 (wp_X4_keyAt_32 n k m a rk Q E) 0) (ab_rank (as_T A).1 (as_T A).2 (q : Int)) (q : Int)
      unfold wp_X4_keyAt_32
      exact ⟨by omega, fun _ => hQ h _ _ (Or.inl ⟨rfl, fun y hy hz => hn y hy hz (by have := hI.1.2.1 y hy; omega)⟩), fun h => absurd (by omega) h⟩
    | succ j ih =>
      intro q hq hn
      show wp_X4_keyAt_32 n k m a rk Q E (lq2 (wp_X4_keyAt_32 n k m a rk Q E) (j + 1)) (ab_rank (as_T A).1 (as_T A).2 (q : Int)) (q : Int)
      generalize lq2 (wp_X4_keyAt_32 n k m a rk Q E) (j + 1) = K at ih ⊢
      have hb := ab_rank_le (as_T A).1 (as_T A).2 (q : Int)
      have hs := ab_rank_s (as_T A).1 (as_T A).2 (q : Int) hI.1.1
      have hp := ha q (by omega)
      have nx : (∀ y ∈ (as_T A).1, (as_T A).2 y = 0 → y < (q : Int) + 1 → ab_rank (as_T A).1 (as_T A).2 y ≠ rk) → K (ab_rank (as_T A).1 (as_T A).2 ((q : Int) + 1)) ((q : Int) + 1) := by
        intro g
        have := ih (q + 1) (by omega) (fun y hy hz hlt => g y hy hz (by omega))
        push_cast at this
        exact this
      unfold wp_X4_keyAt_32
      simp only [Int.toNat_natCast, hp]
      refine ⟨by omega, fun h => absurd h (by omega), fun _ => ⟨by omega, by split <;> decide, fun h2 => ?_, fun h2 => ⟨by omega, hk, fun h3 => ?_, fun h3 => ?_⟩⟩⟩
      · have hno : ¬ ((q : Int) ∈ (as_T A).1 ∧ (as_T A).2 (q : Int) = 0) := fun hh => by rw [if_pos hh] at h2; exact absurd h2 (by decide)
        rw [if_neg hno, Int.add_zero] at hs
        rw [hs] at nx
        refine nx (fun y hy hz hlt => ?_)
        by_cases e : y = (q : Int)
        · subst e; exact absurd ⟨hy, hz⟩ hno
        · exact hn y hy hz (by omega)
      · have hyes : (q : Int) ∈ (as_T A).1 ∧ (as_T A).2 (q : Int) = 0 := by
          by_cases hh : (q : Int) ∈ (as_T A).1 ∧ (as_T A).2 (q : Int) = 0
          · exact hh
          · rw [if_neg hh] at h2; exact absurd rfl h2
        rw [if_pos hyes] at hs
        rw [hs] at nx
        refine nx (fun y hy hz hlt => ?_)
        by_cases e : y = (q : Int)
        · subst e; exact h3
        · exact hn y hy hz (by omega)
      · have hyes : (q : Int) ∈ (as_T A).1 ∧ (as_T A).2 (q : Int) = 0 := by
          by_cases hh : (q : Int) ∈ (as_T A).1 ∧ (as_T A).2 (q : Int) = 0
          · exact hh
          · rw [if_neg hh] at h2; exact absurd rfl h2
        exact hQ h _ _ (Or.inr ⟨hyes.1, hyes.2, by omega⟩)
  have := main 500 0 rfl (fun y hy _ hlt => by have := hI.1.2.1 y hy; omega)
  rw [show ((0 : Nat) : Int) = 0 from rfl, ab_rank_0 hI.1] at this
  exact ⟨_, this⟩
theorem sp_X4_node1 {T : aT} {nT : Int} {kT dT mT : Nat → Int} (hc : ab_cT nT kT dT mT T.1 T.2) (hg : ab_g T.1 T.2) {node w : Int} (hn : 0 ≤ node ∧ node ≤ 2147483647) (hw : 0 ≤ w ∧ w ≤ 4) {Q : Int → Prop} (hQ : Q (ab_node T.1 T.2 node w)) :
    inR node ∧ inR nT ∧ (node ≥ nT → Q (-1)) ∧ (¬ (node ≥ nT) → wp_X3_numberOfNode nT kT dT mT node w (fun r_3 => Q r_3)) := by
  obtain ⟨h1, h2, h3⟩ := ab_len hc hg
  unfold ab_node at hQ
  refine ⟨by omega, by omega, fun h => ?_, fun h => ?_⟩
  · rw [List.getElem?_eq_none (by omega)] at hQ
    exact hQ
  · obtain ⟨r, hr⟩ : ∃ r, (tk_pr 1 T.1)[node.toNat]? = some r := ⟨_, List.getElem?_eq_getElem (by omega)⟩
    obtain ⟨x, dx⟩ := r
    rw [hr] at hQ
    rw [show node = ((node.toNat : Nat) : Int) by omega]
    exact sp_X3_numberOfNode hc hg hr hw hQ
theorem sp_X4_node (hC : ab_CS n k d m nl nc nw ru ns ks ds ms li qu se co A) (hI : ab_I b A) {s node w : Int} (hs : inR s) (hn : inR node) (hw : inR w) {Q : Int → Prop} (h0 : ¬ (0 ≤ node ∧ 0 ≤ w ∧ w ≤ 4) → E 0)
    (hQ : 0 ≤ node ∧ 0 ≤ w ∧ w ≤ 4 → Q (if s = 0 then ab_node (as_T A).1 (as_T A).2 node w else ab_node (as_U A).1 (as_U A).2 node w)) : wp_X4_node n k d m ns ks ds ms s node w Q E := by
  unfold wp_X4_node
  refine ⟨hn, fun h => sp_X4_checkWhat hw (by decide) (fun q => h0 (fun q2 => q q2.2)) (fun hw2 => ⟨hs, fun h2 => ?_, fun h2 => ?_⟩), fun h => h0 (fun q => h q.1)⟩
  · have := hQ ⟨h, hw2⟩
    rw [if_neg h2] at this
    exact sp_X4_node1 hC.2.1.1 hI.2.1 (by omega) hw2 this
  · have := hQ ⟨h, hw2⟩
    rw [if_pos h2] at this
    exact sp_X4_node1 hC.1 hI.1 (by omega) hw2 this
theorem sp_X4_path (hC : ab_CS n k d m nl nc nw ru ns ks ds ms li qu se co A) (hI : ab_I b A) {key ix : Int} (hk : inR key) (hi : inR ix) {Q : Int → Prop} (h0 : ¬ ((0 ≤ key ∧ key < 500) ∧ 0 ≤ ix) → E 0)
    (hQ : (0 ≤ key ∧ key < 500) ∧ 0 ≤ ix → Q (((ab_s key (as_T A).1)[ix.toNat]?).getD (-1))) : wp_X4_path n k d key ix Q E := by
  unfold wp_X4_path
  exact sp_X4_checkKey hk (fun q => h0 (fun q2 => q q2.1)) (fun hk2 => ⟨hi, fun h => sp_X3_visitedKey hC.1 hI.1 hk2 (by omega) (hQ ⟨hk2, h⟩), fun h => h0 (fun q2 => h q2.2)⟩)
theorem sp_X4_tree1 {T : aT} {nT : Int} {kT dT mT : Nat → Int} (hc : ab_cT nT kT dT mT T.1 T.2) (hg : ab_g T.1 T.2) {w : Int} (hw : 0 ≤ w ∧ w ≤ 6) {Q : Int → Prop} (hQ : Q (ab_tr T w)) :
    inR w ∧ (w = 0 → Q nT) ∧ (w = 1 → wp_X3_presentKeys nT mT (fun r_3 => Q r_3)) ∧ (w = 2 → wp_X3_markedNodes nT mT (fun r_4 => Q r_4)) ∧ (w = 3 → wp_X3_greatestDepth nT dT (fun r_5 => Q r_5)) ∧ (w = 4 → wp_X3_sumOfDepths nT dT mT 1 (fun r_6 => Q r_6)) ∧ (w = 5 → wp_X3_leaves nT dT (fun r_7 => Q r_7)) ∧ (w < 0 ∨ 5 < w → wp_X3_presentKeys nT mT (fun r_8 => wp_X4_leastDepthFor r_8 (fun r_9 => Q r_9))) := by
  have hnp := ab_np_le T.1 T.2
  have hl := hg.2.2.1
  unfold ab_tr at hQ
  refine ⟨by omega, fun h => ?_, fun h => ?_, fun h => ?_, fun h => ?_, fun h => ?_, fun h => ?_, fun h => ?_⟩
  · rw [if_pos h] at hQ
    rw [hc.1]; exact hQ
  · rw [if_neg (by omega), if_pos h] at hQ
    exact sp_X3_presentKeys hc hg hQ
  · rw [if_neg (by omega), if_neg (by omega), if_pos h] at hQ
    exact sp_X3_markedNodes hc hg hQ
  · rw [if_neg (by omega), if_neg (by omega), if_neg (by omega), if_pos h] at hQ
    exact sp_X3_greatestDepth hc hg hQ
  · rw [if_neg (by omega), if_neg (by omega), if_neg (by omega), if_neg (by omega), if_pos h] at hQ
    exact sp_X3_sumOfDepths hc hg (Or.inr rfl) (by rw [if_neg (by decide)]; exact hQ)
  · rw [if_neg (by omega), if_neg (by omega), if_neg (by omega), if_neg (by omega), if_neg (by omega), if_pos h] at hQ
    exact sp_X3_leaves hc hg hQ
  · rw [if_neg (by omega), if_neg (by omega), if_neg (by omega), if_neg (by omega), if_neg (by omega), if_neg (by omega)] at hQ
    exact sp_X3_presentKeys hc hg (sp_X4_leastDepthFor (by omega) hQ)
theorem sp_X4_tree (hC : ab_CS n k d m nl nc nw ru ns ks ds ms li qu se co A) (hI : ab_I b A) {s w : Int} (hs : inR s) (hw : inR w) {Q : Int → Prop} (h0 : ¬ (0 ≤ w ∧ w ≤ 6) → E 0)
    (hQ : 0 ≤ w ∧ w ≤ 6 → Q (if s = 0 then ab_tr (as_T A) w else ab_tr (as_U A) w)) : wp_X4_tree n d m ns ds ms s w Q E := by
  unfold wp_X4_tree
  refine sp_X4_checkWhat hw (by decide) h0 (fun hw2 => ⟨hs, fun h2 => ?_, fun h2 => ?_⟩)
  · have := hQ hw2
    rw [if_neg h2] at this
    exact sp_X4_tree1 hC.2.1.1 hI.2.1 hw2 this
  · have := hQ hw2
    rw [if_pos h2] at this
    exact sp_X4_tree1 hC.1 hI.1 hw2 this
theorem sp_X4_rebuild (hC : ab_CS n k d m nl nc nw ru ns ks ds ms li qu se co A) (hI : ab_I b A) {w : Int} (hw : inR w) {pr : Nat → Int} {Q : Int → (Nat → Int) → Prop} (h0 : ¬ (0 ≤ w ∧ w ≤ 5) → E 0)
    (hQ : 0 ≤ w ∧ w ≤ 5 → ∀ pr, Q (ab_reb A w) pr) : wp_X4_rebuild n k m nl nc nw ru ns ks ms li pr w Q E := by
  obtain ⟨h1, ⟨j1, j2, j3, j4, j5, j6, j7⟩, h3, h5⟩ := hC
  have i3 := hI.2.2.1
  have i4 := hI.2.2.2.1
  unfold wp_X4_rebuild
  refine sp_X4_checkWhat hw (by decide) h0 (fun hw2 => ?_)
  have hq := hQ hw2
  unfold ab_reb at hq
  have z0 : as_R A = 0 → nl = 0 ∧ nc = 0 ∧ nw = 0 := fun r => by
    have := i4 r
    rw [this.2.1] at j2
    rw [this.2.2.1] at j3
    rw [this.2.2.2] at j4
    exact ⟨j2, j3, j4⟩
  refine ⟨hw, fun h => ?_, fun h => ?_, fun h => ?_, fun h => ?_, fun h => ?_, fun h => ?_⟩
  · unfold wp_X1_condition
    refine ⟨by omega, fun hr => ⟨by omega, by omega, fun hc => ?_, fun hc => ?_⟩, fun hr => ?_⟩
    · rw [if_neg (by omega), if_pos h, if_neg (by omega)] at hq; exact hq pr
    · rw [if_neg (by omega), if_pos h, if_pos (by omega)] at hq; exact hq pr
    · rw [if_pos (by omega), if_neg (by omega)] at hq; exact hq pr
  · by_cases hr : as_R A = 0
    · rw [if_pos hr, if_neg (by omega)] at hq; rw [(z0 hr).1]; exact hq pr
    · rw [if_neg hr, if_neg (by omega), if_pos h] at hq; rw [j2]; exact hq pr
  · by_cases hr : as_R A = 0
    · rw [if_pos hr, if_neg (by omega)] at hq; rw [(z0 hr).2.1]; exact hq pr
    · rw [if_neg hr, if_neg (by omega), if_neg (by omega), if_pos h] at hq; rw [j3]; exact hq pr
  · by_cases hr : as_R A = 0
    · rw [if_pos hr, if_neg (by omega)] at hq; rw [(z0 hr).2.2]; exact hq pr
    · rw [if_neg hr, if_neg (by omega), if_neg (by omega), if_neg (by omega), if_pos h] at hq; rw [j4]; exact hq pr
  · unfold wp_X1_nextKey
    refine ⟨by omega, by omega, fun hc => ?_, fun hc => ⟨by omega, ?_⟩⟩
    · by_cases hr : as_R A = 0
      · rw [if_pos hr, if_pos h] at hq; exact hq pr
      · rw [if_neg hr, if_neg (by omega), if_neg (by omega), if_neg (by omega), if_neg (by omega), if_pos h, if_neg (by omega)] at hq; exact hq pr
    · have hr : as_R A ≠ 0 := fun r => by have := z0 r; omega
      rw [if_neg hr, if_neg (by omega), if_neg (by omega), if_neg (by omega), if_neg (by omega), if_pos h, if_pos (by omega)] at hq
      have hg := ab_getD (l := as_L A) (i := as_C A) (by omega)
      have : li nc.toNat = (as_L A).getD (as_C A) 0 := by rw [j3, Int.toNat_natCast]; exact j6 _ _ hg
      rw [this]
      exact hq pr
  · refine ⟨by omega, fun hr => ?_, fun hr => ?_⟩
    · rw [if_pos (by omega), if_neg (by omega)] at hq; exact hq pr
    · rw [if_neg (by omega), if_neg (by omega), if_neg (by omega), if_neg (by omega), if_neg (by omega), if_neg (by omega)] at hq
      unfold wp_X4_keysInJustOneTree
      refine sp_X3_tellPresence h1 hI.1 (fun a ha => sp_X3_presentKeysAmong j1 hI.2.1 ha (sp_X3_presentKeys h1 hI.1 (sp_X3_presentKeys j1 hI.2.1 ?_)))
      unfold ab_alone at hq
      rw [ab_both_c]
      exact hq a
theorem sp_X4_queued (hC : ab_CS n k d m nl nc nw ru ns ks ds ms li qu se co A) (hI : ab_I b A) {ix : Int} (hi : inR ix) {Q : Int → Prop} (h0 : ix < 0 → E 0) (hQ : 0 ≤ ix → Q (((as_Q A)[ix.toNat]?).getD (-1))) : wp_X4_queued nw qu ix Q E := by
  obtain ⟨h1, ⟨j1, j2, j3, j4, j5, j6, j7⟩, h3, h5⟩ := hC
  have i3 := hI.2.2.1
  unfold wp_X4_queued
  refine ⟨hi, fun h => ⟨hi, by omega, fun h2 => ?_, fun h2 => ⟨by omega, ?_⟩⟩, fun h => h0 (by omega)⟩
  · have := hQ h
    rw [List.getElem?_eq_none (by omega)] at this
    exact this
  · have := hQ h
    have hlt : ix.toNat < (as_Q A).length := by omega
    rw [List.getElem?_eq_getElem hlt] at this
    rw [j7 _ _ (List.getElem?_eq_getElem hlt)]
    exact this
def ab_cn (A : aS) (S : List aS) (X : List Int) (w : Int) : Int := if w < 7 then as_N A w.toNat else if w = 7 then (S.length : Int) else (X.length : Int)
theorem sp_X4_count (hC : ab_CS n k d m nl nc nw ru ns ks ds ms li qu se co A) {sv : Nat → Nat → Nat → Int} {S : List aS} (hV : ab_CV nsv sv S) {le : Int} {ch : Nat → Int} {X : List Int} (hT : ab_CT le ch X) {w : Int} (hw : inR w) {Q : Int → Prop} (h0 : ¬ (0 ≤ w ∧ w ≤ 8) → E 0)
    (hQ : 0 ≤ w ∧ w ≤ 8 → Q (ab_cn A S X w)) : wp_X4_count nsv co le w Q E := by
  unfold wp_X4_count
  refine sp_X4_checkWhat hw (by decide) h0 (fun hw2 => ?_)
  have hq := hQ hw2
  unfold ab_cn at hq
  refine ⟨hw, fun h => ⟨hw, fun h2 => ?_, fun h2 => ?_⟩, fun h => ⟨by omega, ?_⟩⟩
  · rw [if_neg (by omega), if_neg h2] at hq; rw [hT.1]; exact hq
  · rw [if_neg (by omega), if_pos (by omega)] at hq; rw [hV.1]; exact hq
  · rw [if_pos (by omega)] at hq; rw [hC.2.2.2 _ (by omega)]; exact hq
theorem sp_X4_setting (hC : ab_CS n k d m nl nc nw ru ns ks ds ms li qu se co A) {s : Int} (hs : inR s) {Q : Int → Prop} (h0 : ¬ (0 ≤ s ∧ s < 3) → E 2) (hQ : 0 ≤ s ∧ s < 3 → Q (as_E A s.toNat)) : wp_X4_setting se s Q E := by
  unfold wp_X4_setting
  exact sp_X4_checkSetting hs h0 (fun hs2 => ⟨hs2, by rw [hC.2.2.1 _ (by omega)]; exact hQ hs2⟩)
end PN
section PN5
variable {z : Nat → Int} {A : aS} {b : Int} {nsv thr nvi low high : Int} {svm vi : Nat → Int} {S : List aS}
end PN5
