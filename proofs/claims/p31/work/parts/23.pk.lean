/-! the reference's acts over the state -/
theorem uI_eq (f : Nat → Int) (k : Nat) (v : Int) : uI f k v k = v := by unfold uI; rw [if_pos rfl]
theorem uI_ne {f : Nat → Int} {k j : Nat} {v : Int} (h : j ≠ k) : uI f k v j = f j := by unfold uI; rw [if_neg h]
theorem ab_mT_congr {z z2 : Nat → Int} {t : Nat} {L : List Int} {mk : Int → Int} (h : ab_mT z t L mk) (hg : ab_g L mk) (hz : ∀ j, t ≤ j → j < t + 241 → z2 j = z j) : ab_mT z2 t L mk := by
  have hl := hg.2.2.1
  refine ⟨by rw [hz t (Nat.le_refl _) (by omega)]; exact h.1, fun i x hx => ?_⟩
  have hlt := (List.getElem?_eq_some_iff.mp hx).1
  rw [hz _ (by omega) (by omega), hz _ (by omega) (by omega)]
  exact h.2 i x hx
section PK
variable {z : Nat → Int} {A : aS} {b : Int}
theorem ab_MS_U (h : ab_MS z A) (hI : ab_I b A) {z2 : Nat → Int} {U : aT} (hU : ab_mT z2 241 U.1 U.2) (hf : ∀ j, ¬ (241 ≤ j ∧ j < 241 + 241) → z2 j = z j) : ab_MS z2 (as_T A, U, A.2.2) := by
  obtain ⟨h1, h2, ⟨h3, h4, h5, h6⟩, ⟨h7, h8⟩, h9, h10⟩ := h
  refine ⟨ab_mT_congr h1 hI.1 (fun j a b => hf j (by omega)), hU, ⟨?_, ?_, ?_, ?_⟩, ⟨fun p x hx => ?_, fun p x hx => ?_⟩, fun i hi => ?_, fun i hi => ?_⟩
  · rw [hf _ (by omega)]; exact h3
  · rw [hf _ (by omega)]; exact h4
  · rw [hf _ (by omega)]; exact h5
  · rw [hf _ (by omega)]; exact h6
  · rw [hf _ (by omega)]; exact h7 p x hx
  · rw [hf _ (by omega)]; exact h8 p x hx
  · rw [hf _ (by omega)]; exact h9 i hi
  · rw [hf _ (by omega)]; exact h10 i hi
theorem ab_MS_T (h : ab_MS z A) (hI : ab_I b A) {z2 : Nat → Int} {T : aT} (hT : ab_mT z2 0 T.1 T.2) (hf : ∀ j, ¬ (0 ≤ j ∧ j < 0 + 241) → z2 j = z j) : ab_MS z2 (T, A.2) := by
  obtain ⟨h1, h2, ⟨h3, h4, h5, h6⟩, ⟨h7, h8⟩, h9, h10⟩ := h
  refine ⟨hT, ab_mT_congr h2 hI.2.1 (fun j a b => hf j (by omega)), ⟨?_, ?_, ?_, ?_⟩, ⟨fun p x hx => ?_, fun p x hx => ?_⟩, fun i hi => ?_, fun i hi => ?_⟩
  · rw [hf _ (by omega)]; exact h3
  · rw [hf _ (by omega)]; exact h4
  · rw [hf _ (by omega)]; exact h5
  · rw [hf _ (by omega)]; exact h6
  · rw [hf _ (by omega)]; exact h7 p x hx
  · rw [hf _ (by omega)]; exact h8 p x hx
  · rw [hf _ (by omega)]; exact h9 i hi
  · rw [hf _ (by omega)]; exact h10 i hi
theorem ab_mT_e0 {z : Nat → Int} {t : Nat} (h : z t = 0) : ab_mT z t ([] : List Int) (fun _ => 0) := ⟨h, fun i x hx => by cases hx⟩
/-- the second tree, the list, the queue are emptied -/
theorem ab_MS_end (h : ab_MS z A) (hI : ab_I b A) {z2 : Nat → Int} (h0 : z2 482 = 0 ∧ z2 483 = 0 ∧ z2 484 = 0 ∧ z2 485 = 0 ∧ z2 241 = 0) {T : aT} (hT : ab_mT z2 0 T.1 T.2) {N : Nat → Int} (hE : ∀ i, i < 3 → z2 (636 + i) = as_E A i) (hN : ∀ i, i < 7 → z2 (639 + i) = N i) :
    ab_MS z2 (T, ab_e0, ([], 0, [], 0), as_E A, N) := ⟨hT, ab_mT_e0 h0.2.2.2.2, ⟨h0.2.1, h0.2.2.1, h0.2.2.2.1, h0.1⟩, ⟨fun p x hx => (by cases hx), fun p x hx => (by cases hx)⟩, hE, hN⟩
theorem ab_MS_cnta (h : ab_MS z A) (hI : ab_I b A) {w : Int} {z2 : Nat → Int} (hf : ∀ j, j < 639 → z2 j = z j) (h0 : z2 639 = w) (h1 : z2 640 = max (z 640) w) (h2 : z2 641 = z 641 + w) (h3 : z2 642 = z 642 + 1) (h4 : ∀ i, 643 ≤ i → z2 i = z i) : ab_MS z2 (ab_cnta A w) := by
  obtain ⟨k1, k2, ⟨k3, k4, k5, k6⟩, ⟨k7, k8⟩, k9, k10⟩ := h
  have i3 := hI.2.2.1
  refine ⟨ab_mT_congr k1 hI.1 (fun j a b => hf j (by omega)), ab_mT_congr k2 hI.2.1 (fun j a b => hf j (by omega)), ⟨?_, ?_, ?_, ?_⟩, ⟨fun p x hx => ?_, fun p x hx => ?_⟩, fun i hi => ?_, fun i hi => ?_⟩
  · rw [hf _ (by omega)]; exact k3
  · rw [hf _ (by omega)]; exact k4
  · rw [hf _ (by omega)]; exact k5
  · rw [hf _ (by omega)]; exact k6
  · have hlt : p < (as_L A).length := (List.getElem?_eq_some_iff.mp hx).1
    rw [hf _ (by omega)]; exact k7 p x hx
  · have hlt : p < (as_Q A).length := (List.getElem?_eq_some_iff.mp hx).1
    rw [hf _ (by omega)]; exact k8 p x hx
  · rw [hf _ (by omega)]; exact k9 i hi
  · show z2 (639 + i) = if i = 0 then w else if i = 1 then max (as_N A 1) w else if i = 2 then as_N A 2 + w else if i = 3 then as_N A 3 + 1 else as_N A i
    have n1 := k10 1 (by decide)
    have n2 := k10 2 (by decide)
    have n3 := k10 3 (by decide)
    rcases (show i = 0 ∨ i = 1 ∨ i = 2 ∨ i = 3 ∨ (i ≠ 0 ∧ i ≠ 1 ∧ i ≠ 2 ∧ i ≠ 3) by omega) with q | q | q | q | q
    · subst q; exact h0
    · subst q
      rw [if_neg (by decide), if_pos rfl, ← n1]
      exact h1
    · subst q
      rw [if_neg (by decide), if_neg (by decide), if_pos rfl, ← n2]
      exact h2
    · subst q
      rw [if_neg (by decide), if_neg (by decide), if_neg (by decide), if_pos rfl, ← n3]
      exact h3
    · rw [if_neg q.1, if_neg q.2.1, if_neg q.2.2.1, if_neg q.2.2.2, h4 _ (by omega)]
      exact k10 i hi
end PK
