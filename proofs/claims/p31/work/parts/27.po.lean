/-! how long a rebuild still takes -/
def ab_rem (A : aS) : Nat := ((as_L A).length - as_C A) + (as_Q A).length
def ab_sl (A : aS) : Nat := max 1 (ab_rem A)
def ab_it (A : aS) : Nat → aS
  | 0 => A
  | k + 1 => (ab_tk (ab_it A k)).2
def ab_wk (A : aS) (k : Nat) : Int := (ab_tk (ab_it A k)).1
def ab_sm (f : Nat → Int) : Nat → Nat → Int
  | _, 0 => 0
  | k, n + 1 => f k + ab_sm f (k + 1) n
def ab_cg (f : Nat → Int) (sp : Int) : Nat → Nat → Int → Int → Int
  | 0, _, _, g => g
  | r + 1, k, w, g => ab_cg f sp r (k + 1) ((if (k : Int) % sp = 0 then 0 else w) + f k) (max g ((if (k : Int) % sp = 0 then 0 else w) + f k))
def ab_cl (A : aS) (sp : Int) : Int := ((ab_sl A : Int) + sp - 1) / sp
def ab_lg (A : aS) (sp : Int) : Int := ab_cg (ab_wk A) sp (ab_sl A) 0 0 0
abbrev ab_jb (A : aS) : aT × (List Int × Nat × List Int × Int) := (as_U A, (as_L A, as_C A, as_Q A, as_R A))
theorem ab_tk_congr {A B : aS} (h : ab_jb A = ab_jb B) : (ab_tk A).1 = (ab_tk B).1 ∧ ab_jb (ab_tk A).2 = ab_jb (ab_tk B).2 := by
  obtain ⟨T, U, ⟨l, c, q, r⟩, E, N⟩ := A
  obtain ⟨T2, U2, ⟨l2, c2, q2, r2⟩, E2, N2⟩ := B
  simp only [ab_jb, as_U, as_L, as_C, as_Q, as_R, Prod.mk.injEq] at h
  obtain ⟨h1, h2, h3, h4, h5⟩ := h
  subst h1 h2 h3 h4 h5
  unfold ab_tk
  simp only [as_U, as_L, as_C, as_Q, as_R, as_T, as_E, as_N]
  split
  · exact ⟨rfl, rfl⟩
  · cases q with
    | nil => exact ⟨rfl, rfl⟩
    | cons a q => exact ⟨rfl, rfl⟩
theorem ab_it_congr {A B : aS} (h : ab_jb A = ab_jb B) (k : Nat) : ab_jb (ab_it A k) = ab_jb (ab_it B k) := by
  induction k with
  | zero => exact h
  | succ k ih => exact (ab_tk_congr ih).2
theorem ab_wk_congr {A B : aS} (h : ab_jb A = ab_jb B) (k : Nat) : ab_wk A k = ab_wk B k := (ab_tk_congr (ab_it_congr h k)).1
theorem ab_sl_congr {A B : aS} (h : ab_jb A = ab_jb B) : ab_sl A = ab_sl B := by
  simp only [ab_jb, Prod.mk.injEq] at h
  unfold ab_sl ab_rem
  rw [h.2.1, h.2.2.1, h.2.2.2.1]
theorem ab_it_add (A : aS) (k : Nat) : ∀ n, ab_it A (k + n) = ab_it (ab_it A k) n := by
  intro n
  induction n with
  | zero => rfl
  | succ n ih =>
    show (ab_tk (ab_it A (k + n))).2 = (ab_tk (ab_it (ab_it A k) n)).2
    rw [ih]
theorem ab_tk_rem (A : aS) : ab_rem (ab_tk A).2 = ab_rem A - 1 := by
  obtain ⟨T, U, ⟨l, c, q, r⟩, E, N⟩ := A
  unfold ab_tk ab_rem
  simp only [as_U, as_L, as_C, as_Q, as_R, as_T, as_E, as_N]
  split
  · simp only []
    omega
  · cases q with
    | nil => simp only [List.length_nil]; omega
    | cons a q => simp only [List.length_cons]; omega
theorem ab_I_it {A : aS} {b : Int} (h : ab_I b A) (hr : as_R A = 1) (k : Nat) : ab_I b (ab_it A k) ∧ as_R (ab_it A k) = 1 ∧ ab_rem (ab_it A k) = ab_rem A - k ∧ as_N (ab_it A k) = as_N A ∧ as_E (ab_it A k) = as_E A ∧ as_T (ab_it A k) = as_T A := by
  induction k with
  | zero => exact ⟨h, hr, rfl, rfl, rfl, rfl⟩
  | succ k ih =>
    obtain ⟨i1, i2, i3, i4, i5, i6⟩ := ih
    obtain ⟨j1, j2, j3, j4, j5, j6⟩ := ab_I_tk i1 i2
    refine ⟨j1, j2, ?_, j5.trans i4, j4.trans i5, j6.trans i6⟩
    show ab_rem (ab_tk (ab_it A k)).2 = _
    rw [ab_tk_rem, i3]
    omega
theorem ab_wk_le {A : aS} {b : Int} (h : ab_I b A) (hr : as_R A = 1) (k : Nat) : 0 ≤ ab_wk A k ∧ ab_wk A k ≤ 120 := by
  obtain ⟨i1, i2, _⟩ := ab_I_it h hr k
  exact (ab_I_tk i1 i2).2.2.1
theorem ab_st_it {A : aS} {b : Int} (h : ab_I b A) (hr : as_R A = 1) (k : Nat) : (k + 1 < ab_sl A → ab_st (ab_it A k) = (ab_wk A k, ab_it A (k + 1))) ∧ (ab_sl A ≤ k + 1 → ab_st (ab_it A k) = (ab_wk A k, ab_exc (ab_it A (k + 1)))) := by
  obtain ⟨i1, i2, i3, i4, i5, i6⟩ := ab_I_it h hr (k + 1)
  have hcl := i1.2.2.1.1
  have hiff : (as_C (ab_it A (k + 1)) = (as_L (ab_it A (k + 1))).length ∧ as_Q (ab_it A (k + 1)) = []) ↔ ab_sl A ≤ k + 1 := by
    unfold ab_rem at i3
    unfold ab_sl ab_rem
    constructor
    · intro ⟨h1, h2⟩
      rw [h2] at i3
      simp at i3
      omega
    · intro h1
      have : (as_Q (ab_it A (k + 1))).length = 0 := by omega
      exact ⟨by omega, List.length_eq_zero_iff.mp this⟩
  constructor
  · intro hlt
    unfold ab_st
    rw [if_neg (fun q => by have := hiff.mp q; omega)]
    rfl
  · intro hge
    unfold ab_st
    rw [show (ab_tk (ab_it A k)).2 = ab_it A (k + 1) from rfl, if_pos (hiff.mpr hge)]
    rfl
theorem ab_adv_stop {n : Nat} {w : Int} {A : aS} (h : as_R A = 0) : ab_adv n w A = (w, A) := by
  cases n with
  | zero => rfl
  | succ n =>
    unfold ab_adv
    rw [if_neg (by omega)]
theorem ab_adv_lt {A : aS} {b : Int} (h : ab_I b A) (hr : as_R A = 1) : ∀ (n k : Nat) (w : Int), k + n < ab_sl A → ab_adv n w (ab_it A k) = (w + ab_sm (ab_wk A) k n, ab_it A (k + n)) := by
  intro n
  induction n with
  | zero => intro k w _; simp [ab_adv, ab_sm]
  | succ n ih =>
    intro k w hk
    have hi := ab_I_it h hr k
    unfold ab_adv
    rw [if_pos hi.2.1, (ab_st_it h hr k).1 (by omega), ih (k + 1) _ (by omega)]
    refine Prod.ext ?_ ?_
    · show w + ab_wk A k + ab_sm (ab_wk A) (k + 1) n = w + (ab_wk A k + ab_sm (ab_wk A) (k + 1) n)
      omega
    · show ab_it A (k + 1 + n) = ab_it A (k + (n + 1))
      congr 1
      omega
theorem ab_adv_ge {A : aS} {b : Int} (h : ab_I b A) (hr : as_R A = 1) : ∀ (n k : Nat) (w : Int), k < ab_sl A → ab_sl A ≤ k + n → (ab_adv n w (ab_it A k)).1 = w + ab_sm (ab_wk A) k (ab_sl A - k) ∧ as_R (ab_adv n w (ab_it A k)).2 = 0 ∧ as_N (ab_adv n w (ab_it A k)).2 5 = as_N A 5 + 1 := by
  intro n
  induction n with
  | zero => intro k w h1 h2; omega
  | succ n ih =>
    intro k w h1 h2
    have hi := ab_I_it h hr k
    have hi1 := ab_I_it h hr (k + 1)
    unfold ab_adv
    rw [if_pos hi.2.1]
    by_cases hk : k + 1 < ab_sl A
    · rw [(ab_st_it h hr k).1 hk]
      obtain ⟨j1, j2, j3⟩ := ih (k + 1) (w + ab_wk A k) hk (by omega)
      refine ⟨?_, j2, j3⟩
      rw [j1, show ab_sl A - k = (ab_sl A - (k + 1)) + 1 by omega]
      show w + ab_wk A k + ab_sm (ab_wk A) (k + 1) (ab_sl A - (k + 1)) = w + (ab_wk A k + ab_sm (ab_wk A) (k + 1) (ab_sl A - (k + 1)))
      omega
    · rw [(ab_st_it h hr k).2 (by omega), ab_adv_stop (show as_R (ab_exc (ab_it A (k + 1))) = 0 from rfl)]
      refine ⟨?_, rfl, ?_⟩
      · rw [show ab_sl A - k = 1 by omega]
        show w + ab_wk A k = w + (ab_wk A k + 0)
        omega
      · show uI (as_N (ab_it A (k + 1))) 5 (as_N (ab_it A (k + 1)) 5 + 1) 5 = as_N A 5 + 1
        rw [uI_eq, hi1.2.2.2.1]
theorem ab_sm_nn {f : Nat → Int} (hf : ∀ k, 0 ≤ f k) : ∀ (n k : Nat), 0 ≤ ab_sm f k n := by
  intro n
  induction n with
  | zero => intro k; exact Int.le_refl _
  | succ n ih =>
    intro k
    have := hf k
    have := ih (k + 1)
    show 0 ≤ f k + ab_sm f (k + 1) n
    omega
theorem ab_cg_in {f : Nat → Int} (hf : ∀ k, 0 ≤ f k) {sp : Int} (r : Nat) : ∀ (t k : Nat) (w g : Int), w ≤ g → (∀ i, k ≤ i → i < k + t → ¬ (i : Int) % sp = 0) → ab_cg f sp (t + r) k w g = ab_cg f sp r (k + t) (w + ab_sm f k t) (max g (w + ab_sm f k t)) := by
  intro t
  induction t with
  | zero =>
    intro k w g h _
    rw [Nat.zero_add]
    show _ = ab_cg f sp r (k + 0) (w + 0) (max g (w + 0))
    rw [Int.add_zero, Int.max_eq_left h, Nat.add_zero]
  | succ t ih =>
    intro k w g h hm
    rw [show t + 1 + r = (t + r) + 1 by omega]
    have hk := hm k (Nat.le_refl _) (by omega)
    have hs := ab_sm_nn hf t (k + 1)
    show ab_cg f sp (t + r) (k + 1) ((if (k : Int) % sp = 0 then 0 else w) + f k) (max g ((if (k : Int) % sp = 0 then 0 else w) + f k)) = _
    rw [if_neg hk, ih (k + 1) (w + f k) (max g (w + f k)) (by omega) (fun i h1 h2 => hm i (by omega) (by omega))]
    show ab_cg f sp r (k + 1 + t) (w + f k + ab_sm f (k + 1) t) (max (max g (w + f k)) (w + f k + ab_sm f (k + 1) t)) = ab_cg f sp r (k + (t + 1)) (w + (f k + ab_sm f (k + 1) t)) (max g (w + (f k + ab_sm f (k + 1) t)))
    rw [show k + 1 + t = k + (t + 1) by omega, show w + f k + ab_sm f (k + 1) t = w + (f k + ab_sm f (k + 1) t) by omega]
    congr 1
    omega
/-- one call -/
theorem ab_cg_call {f : Nat → Int} (hf : ∀ k, 0 ≤ f k) {sp : Int} (hsp : 1 ≤ sp) (r t : Nat) (ht : 1 ≤ t) (hts : (t : Int) ≤ sp) (w g : Int) (hg : 0 ≤ g) : ab_cg f sp (t + r) 0 w g = ab_cg f sp r t (ab_sm f 0 t) (max g (ab_sm f 0 t)) := by
  obtain ⟨t1, rfl⟩ : ∃ t1, t = t1 + 1 := ⟨t - 1, by omega⟩
  rw [show t1 + 1 + r = (t1 + r) + 1 by omega]
  have h0 := hf 0
  have hs := ab_sm_nn hf t1 1
  show ab_cg f sp (t1 + r) (0 + 1) ((if ((0 : Nat) : Int) % sp = 0 then 0 else w) + f 0) (max g ((if ((0 : Nat) : Int) % sp = 0 then 0 else w) + f 0)) = _
  rw [if_pos (by simp)]
  rw [ab_cg_in hf r t1 1 (0 + f 0) (max g (0 + f 0)) (by omega) (fun i h1 h2 q => by
    rw [Int.emod_eq_of_lt (by omega) (by omega)] at q
    omega)]
  show ab_cg f sp r (1 + t1) (0 + f 0 + ab_sm f 1 t1) (max (max g (0 + f 0)) (0 + f 0 + ab_sm f 1 t1)) = ab_cg f sp r (t1 + 1) (f 0 + ab_sm f (0 + 1) t1) (max g (f 0 + ab_sm f (0 + 1) t1))
  rw [show 1 + t1 = t1 + 1 by omega, show 0 + f 0 + ab_sm f 1 t1 = f 0 + ab_sm f (0 + 1) t1 by simp]
  congr 1
  simp only [Nat.zero_add]
  omega
theorem ab_cg_shift {f : Nat → Int} {sp : Int} (n : Nat) (hn : (n : Int) = sp) : ∀ (r k : Nat) (w g : Int), ab_cg (fun j => f (n + j)) sp r k w g = ab_cg f sp r (n + k) w g := by
  intro r
  induction r with
  | zero => intro k w g; rfl
  | succ r ih =>
    intro k w g
    have e : ((n + k : Nat) : Int) % sp = (k : Int) % sp := by
      rw [← hn]
      push_cast
      exact Int.add_emod_left _ _
    show ab_cg (fun j => f (n + j)) sp r (k + 1) ((if (k : Int) % sp = 0 then 0 else w) + f (n + k)) (max g ((if (k : Int) % sp = 0 then 0 else w) + f (n + k))) = ab_cg f sp r (n + k + 1) ((if ((n + k : Nat) : Int) % sp = 0 then 0 else w) + f (n + k)) (max g ((if ((n + k : Nat) : Int) % sp = 0 then 0 else w) + f (n + k)))
    rw [e, ih (k + 1)]
    rfl
theorem ab_cg_w0 {f : Nat → Int} {sp : Int} {r : Nat} {w w2 g : Int} : ab_cg f sp r 0 w g = ab_cg f sp r 0 w2 g := by
  cases r with
  | zero => rfl
  | succ r =>
    show ab_cg f sp r (0 + 1) ((if ((0 : Nat) : Int) % sp = 0 then 0 else w) + f 0) _ = ab_cg f sp r (0 + 1) ((if ((0 : Nat) : Int) % sp = 0 then 0 else w2) + f 0) _
    rw [if_pos (by simp), if_pos (by simp)]
theorem ab_cl_step {s : Nat} {sp : Int} (hsp : 1 ≤ sp ∧ sp ≤ 8) (h : sp < (s : Int)) : ((s : Int) + sp - 1) / sp = 1 + (((s - sp.toNat : Nat) : Int) + sp - 1) / sp := by
  rcases (show sp = 1 ∨ sp = 2 ∨ sp = 3 ∨ sp = 4 ∨ sp = 5 ∨ sp = 6 ∨ sp = 7 ∨ sp = 8 by omega) with q | q | q | q | q | q | q | q <;> subst q <;> omega
theorem ab_cl_one {s : Nat} {sp : Int} (hsp : 1 ≤ sp ∧ sp ≤ 8) (h : (s : Int) ≤ sp) (h1 : 1 ≤ s) : ((s : Int) + sp - 1) / sp = 1 := by
  rcases (show sp = 1 ∨ sp = 2 ∨ sp = 3 ∨ sp = 4 ∨ sp = 5 ∨ sp = 6 ∨ sp = 7 ∨ sp = 8 by omega) with q | q | q | q | q | q | q | q <;> subst q <;> omega
theorem ab_cl_rng {s : Nat} {sp : Int} (hsp : 1 ≤ sp ∧ sp ≤ 8) (h : 1 ≤ s ∧ s ≤ 150) : 1 ≤ ((s : Int) + sp - 1) / sp ∧ ((s : Int) + sp - 1) / sp ≤ 150 := by
  rcases (show sp = 1 ∨ sp = 2 ∨ sp = 3 ∨ sp = 4 ∨ sp = 5 ∨ sp = 6 ∨ sp = 7 ∨ sp = 8 by omega) with q | q | q | q | q | q | q | q <;> subst q <;> omega
theorem ab_sl_rng {A : aS} {b : Int} (h : ab_I b A) : 1 ≤ ab_sl A ∧ ab_sl A ≤ 150 := by
  have i3 := h.2.2.1
  unfold ab_sl ab_rem
  omega
/-- the answers of leastSpeed -/
def ab_ls (A : aS) (c r : Int) : Prop := (r = -1 ∧ ∀ s : Int, 1 ≤ s → s ≤ 8 → c < ab_cl A s) ∨ ((1 ≤ r ∧ r ≤ 8) ∧ ab_cl A r ≤ c ∧ ∀ s : Int, 1 ≤ s → s < r → c < ab_cl A s)
theorem ab_ls_un {A : aS} {c r1 r2 : Int} (h1 : ab_ls A c r1) (h2 : ab_ls A c r2) : r1 = r2 := by
  rcases h1 with ⟨a1, a2⟩ | ⟨a1, a2, a3⟩ <;> rcases h2 with ⟨b1, b2⟩ | ⟨b1, b2, b3⟩
  · omega
  · have := a2 r2 b1.1 b1.2; omega
  · have := b2 r1 a1.1 a1.2; omega
  · rcases Int.lt_trichotomy r1 r2 with q | q | q
    · have := b3 r1 a1.1 q; omega
    · exact q
    · have := a3 r2 b1.1 q; omega
section PO
variable {nl nc nw ru ns : Int} {ks ds ms li qu : Nat → Int} {A : aS} {b : Int} {E : Nat → Prop}
theorem ab_sl_c (hC : ab_CJ nl nc nw ru ns ks ds ms li qu A) (hI : ab_I b A) : max 1 ((nl - nc) + nw) = (ab_sl A : Int) := by
  obtain ⟨j1, j2, j3, j4, j5, j6, j7⟩ := hC
  have i3 := hI.2.2.1
  unfold ab_sl ab_rem
  omega
theorem sp_X1_callsLeft (hC : ab_CJ nl nc nw ru ns ks ds ms li qu A) (hI : ab_I b A) {sp : Int} (hsp : 1 ≤ sp ∧ sp ≤ 8) {Q : Int → Prop} (hQ : Q (ab_cl A sp)) : wp_X1_callsLeft nl nc nw sp Q := by
  have hs := ab_sl_c hC hI
  have hr := ab_sl_rng hI
  obtain ⟨j1, j2, j3, j4, j5, j6, j7⟩ := hC
  have i3 := hI.2.2.1
  unfold wp_X1_callsLeft wp_X1_stepsLeft
  refine ⟨by omega, fun _ => ⟨by omega, ?_⟩, fun h => absurd (by omega) h⟩
  rw [hs]
  exact ⟨by omega, by omega, hQ⟩
theorem sp_X4_untilExchange (hC : ab_CJ nl nc nw ru ns ks ds ms li qu A) (hI : ab_I b A) {sp : Int} (hs : inR sp) {Q : Int → Prop} (h0 : ¬ (1 ≤ sp ∧ sp ≤ 8) → E 0)
    (hQ : 1 ≤ sp ∧ sp ≤ 8 → Q (if as_R A = 1 then ab_cl A sp else -1)) : wp_X4_untilExchange nl nc nw ru sp Q E := by
  have hru : ru = as_R A := hC.2.2.2.2.1
  have hr01 := hI.2.2.1.2.2.2
  unfold wp_X4_untilExchange
  refine sp_X4_checkSpeed hs h0 (fun hs2 => ⟨by omega, fun h => ?_, fun h => sp_X1_callsLeft hC hI hs2 ?_⟩)
  · have := hQ hs2
    rw [if_neg (by omega)] at this
    exact this
  · have := hQ hs2
    rw [if_pos (by omega)] at this
    exact this
theorem sp_X4_leastSpeed (hC : ab_CJ nl nc nw ru ns ks ds ms li qu A) (hI : ab_I b A) {c : Int} (hc : inR c) {Q : Int → Prop} (h0 : c < 1 → E 0)
    (hQ0 : 1 ≤ c → as_R A = 0 → Q (-1)) (hQ : 1 ≤ c → as_R A = 1 → ∀ r, ab_ls A c r → Q r) : wp_X4_leastSpeed nl nc nw ru c Q E := by
  have hru : ru = as_R A := hC.2.2.2.2.1
  have hr01 := hI.2.2.1.2.2.2
  have hsl := ab_sl_rng hI
  unfold wp_X4_leastSpeed
  refine ⟨hc, fun h1 => ⟨by omega, fun h => ?_, fun h => hQ0 h1 (by omega)⟩, fun h => h0 (by omega)⟩
  have main : ∀ (m : Nat) (s : Int), s + (m : Int) = 9 → 1 ≤ s → (∀ s2 : Int, 1 ≤ s2 → s2 < s → c < ab_cl A s2) → lq1 (wp_X4_leastSpeed_32 nl nc nw ru c Q E) (m + 1) s := by
    intro m
    induction m with
    | zero =>
      intro s hs hs1 hno
      show wp_X4_leastSpeed_32 nl nc nw ru c Q E (lq1 (wp_X4_leastSpeed_32 nl nc nw ru c Q E) 0) s
      unfold wp_X4_leastSpeed_32
      exact ⟨by omega, fun _ => hQ h1 (by omega) _ (Or.inl ⟨rfl, fun s2 a b => hno s2 a (by omega)⟩), fun h => absurd (by omega) h⟩
    | succ m ih =>
      intro s hs hs1 hno
      show wp_X4_leastSpeed_32 nl nc nw ru c Q E (lq1 (wp_X4_leastSpeed_32 nl nc nw ru c Q E) (m + 1)) s
      generalize lq1 (wp_X4_leastSpeed_32 nl nc nw ru c Q E) (m + 1) = K at ih ⊢
      have hcl := ab_cl_rng (s := ab_sl A) (sp := s) (by omega) hsl
      unfold wp_X4_leastSpeed_32
      refine ⟨by omega, fun h => absurd h (by omega), fun _ => sp_X1_callsLeft hC hI (by omega) ⟨by unfold ab_cl; omega, hc, fun h2 => ih (s + 1) (by omega) (by omega) (fun s2 a b => ?_), fun h2 => hQ h1 (by omega) s (Or.inr ⟨by omega, by omega, hno⟩)⟩⟩
      by_cases e : s2 = s
      · subst e; omega
      · exact hno s2 a (by omega)
  exact ⟨_, main 8 1 rfl (Int.le_refl _) (fun s2 a b => by omega)⟩
theorem sp_X4_longest (hC : ab_CJ nl nc nw ru ns ks ds ms li qu A) (hI : ab_I b A) {nlT ncT nwT ruT nTs : Int} {kTs dTs mTs liT quT : Nat → Int} {sp : Int} (hs : inR sp) {Q : Int → Int → Int → Int → Int → Int → (Nat → Int) → (Nat → Int) → (Nat → Int) → (Nat → Int) → (Nat → Int) → Prop}
    (h0 : ¬ (1 ≤ sp ∧ sp ≤ 8) → E 0) (hQ : 1 ≤ sp ∧ sp ≤ 8 → ∀ nlT ncT nwT ruT nTs kTs dTs mTs liT quT, Q (if as_R A = 1 then ab_lg A sp else -1) nlT ncT nwT ruT nTs kTs dTs mTs liT quT) :
    wp_X4_longest nl nc nw ru ns ks ds ms li qu nlT ncT nwT ruT nTs kTs dTs mTs liT quT sp Q E := by
  have hru : ru = as_R A := hC.2.2.2.2.1
  have hr01 := hI.2.2.1.2.2.2
  have hsl := ab_sl_rng hI
  unfold wp_X4_longest
  refine sp_X4_checkSpeed hs h0 (fun hs2 => ⟨by omega, fun h => ?_, fun h => ?_⟩)
  · have hq := hQ hs2
    have hr1 : as_R A = 1 := by omega
    rw [if_pos hr1] at hq
    refine sp_X1_becomeCopyOf hC hI (fun ks2 ds2 ms2 li2 qu2 g => ?_)
    have hse := ab_sl_c g hI
    unfold wp_X1_stepsLeft
    rw [hse]
    have main : ∀ (m k : Nat) (w gr : Int) (nc2 nw2 ns2 : Int) (ks2 ds2 ms2 qu2 : Nat → Int), k + m = ab_sl A → (0 ≤ w ∧ w ≤ 120 * (k : Int)) → (0 ≤ gr ∧ gr ≤ 120 * (k : Int)) → ab_CJ nl nc2 nw2 ru ns2 ks2 ds2 ms2 li2 qu2 (ab_it A k) → ab_cg (ab_wk A) sp m k w gr = ab_lg A sp →
        lq10 (wp_X4_longest_49 nl nc nw ru ns ks ds ms li qu nl ru li2 sp (ab_sl A : Int) Q E) (m + 1) nc2 nw2 ns2 ks2 ds2 ms2 qu2 w gr (k : Int) := by
      intro m
      induction m with
      | zero =>
        intro k w gr nc2 nw2 ns2 ks2 ds2 ms2 qu2 hk hw hg2 hC2 hcg
        show wp_X4_longest_49 nl nc nw ru ns ks ds ms li qu nl ru li2 sp (ab_sl A : Int) Q E (lq10 (wp_X4_longest_49 nl nc nw ru ns ks ds ms li qu nl ru li2 sp (ab_sl A : Int) Q E) 0) nc2 nw2 ns2 ks2 ds2 ms2 qu2 w gr (k : Int)
        unfold wp_X4_longest_49
        have hgl : gr = ab_lg A sp := hcg
        rw [← hgl] at hq
        exact ⟨by omega, by omega, fun _ => hq _ _ _ _ _ _ _ _ _ _, fun h => absurd (by omega) h⟩
      | succ m ih =>
        intro k w gr nc2 nw2 ns2 ks2 ds2 ms2 qu2 hk hw hg2 hC2 hcg
        obtain ⟨i1, i2, i3, i4, i5, i6⟩ := ab_I_it hI hr1 k
        have hwk := ab_wk_le hI hr1 k
        have hm0 := Int.emod_nonneg (k : Int) (show sp ≠ 0 by omega)
        have hm1 := Int.emod_lt_of_pos (k : Int) (show 0 < sp by omega)
        show wp_X4_longest_49 nl nc nw ru ns ks ds ms li qu nl ru li2 sp (ab_sl A : Int) Q E (lq10 (wp_X4_longest_49 nl nc nw ru ns ks ds ms li qu nl ru li2 sp (ab_sl A : Int) Q E) (m + 1)) nc2 nw2 ns2 ks2 ds2 ms2 qu2 w gr (k : Int)
        generalize lq10 (wp_X4_longest_49 nl nc nw ru ns ks ds ms li qu nl ru li2 sp (ab_sl A : Int) Q E) (m + 1) = K at ih ⊢
        have step : ∀ w0 : Int, w0 = (if (k : Int) % sp = 0 then 0 else w) → (0 ≤ w0 ∧ w0 ≤ 120 * (k : Int)) → wp_X4_longest_64 nl nc nw ru ns ks ds ms li qu nl nc2 nw2 ru ns2 ks2 ds2 ms2 li2 qu2 sp (ab_sl A : Int) w0 gr (k : Int) Q E K := by
          intro w0 hw0 hw0b
          unfold wp_X4_longest_64
          refine sp_X1_takeStep hC2 i1 (fun nc3 nw3 ns3 ks3 ds3 ms3 qu3 g3 => ?_)
          have e : (ab_tk (ab_it A k)).1 = ab_wk A k := rfl
          rw [e]
          refine ⟨by omega, by omega, ?_⟩
          have := ih (k + 1) (w0 + ab_wk A k) (max gr (w0 + ab_wk A k)) nc3 nw3 ns3 ks3 ds3 ms3 qu3 (by omega) (by omega) (by omega) g3 (by
            rw [hw0]
            exact hcg)
          push_cast at this
          exact this
        unfold wp_X4_longest_49
        refine ⟨by omega, by omega, fun h => absurd h (by omega), fun _ => ⟨by omega, by omega, by omega, fun h2 => ?_, fun h2 => ?_⟩⟩
        · exact step w (by rw [if_neg h2]) hw
        · exact step 0 (by rw [if_pos (by omega)]) (by omega)
    have i3 := hI.2.2.1
    have j2 := g.2.1
    have j3 := g.2.2.1
    have j4 := g.2.2.2.1
    exact ⟨by omega, _, main (ab_sl A) 0 0 0 nc nw ns ks2 ds2 ms2 qu2 (by omega) (by decide) (by decide) g rfl⟩
  · have hq := hQ hs2
    rw [if_neg (by omega)] at hq
    exact hq _ _ _ _ _ _ _ _ _ _
end PO
section PO5
variable {z : Nat → Int} {A : aS} {b : Int} {thr nvi low high mos : Int} {sp0 vi sr fr to : Nat → Int}
theorem ab_fin_5 (X : aS) (w : Int) : as_N (ab_fin X w) 5 = as_N X 5 := by
  show as_N (ab_beg1 X) 5 = as_N X 5
  unfold ab_beg1
  split
  · show uI (as_N X) 4 (as_N X 4 + 1) 5 = as_N X 5
    rw [uI_ne (by decide)]
  · rfl
end PO5
