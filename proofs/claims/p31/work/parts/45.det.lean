/-! what call and ask answer, case by case -/
abbrev sB (σ : aW) (A : aS) : aW := (A, ab_save σ.2.1 σ.1, σ.2.2)
theorem dr1 {ok : Int → aW → Prop} {rf : Int → Prop} {σ : aW} (hx : ∀ v s, ¬ ok v s) : ∀ r σ2, cR ok rf xc1 σ r σ2 → r = -11 ∧ σ2 = σ := by
  rintro r σ2 (q | ⟨o, _, rfl, rfl⟩)
  · exact absurd q (hx _ _)
  · exact ⟨rfl, rfl⟩
theorem drS {ok : Int → aW → Prop} {rf : Int → Prop} {σ : aW} (hx : ∀ v s, ¬ ok v s) : ∀ r σ2, cR ok rf xcS σ r σ2 → r = -12 ∧ σ2 = σ := by
  rintro r σ2 (q | ⟨o, _, rfl, rfl⟩)
  · exact absurd q (hx _ _)
  · exact ⟨rfl, rfl⟩
theorem dr2 {ok : Int → aW → Prop} {rf : Int → Prop} {σ : aW} (hx : ∀ v s, ¬ ok v s) : ∀ r σ2, cR ok rf xc2 σ r σ2 → r = -10 ∧ σ2 = σ := by
  rintro r σ2 (q | ⟨o, _, rfl, rfl⟩)
  · exact absurd q (hx _ _)
  · exact ⟨rfl, rfl⟩
theorem dr_add {σ : aW} {key : Int} (h : ¬ kyR key) : ∀ r σ2, cR (ok_add σ key) (rf_add σ key) xc10 σ r σ2 → r = -11 ∧ σ2 = σ := by
  rintro r σ2 (q | ⟨o, q, rfl, rfl⟩)
  · exact absurd q.1 h
  · rcases q with ⟨_, rfl⟩ | ⟨q, _⟩
    · exact ⟨rfl, rfl⟩
    · exact absurd q h
theorem dr_addF {σ : aW} {key : Int} (h : kyR key) (hr : ¬ ab_room1 (as_T σ.1) key) : ∀ r σ2, cR (ok_add σ key) (rf_add σ key) xc10 σ r σ2 → r = -12 ∧ σ2 = σ := by
  rintro r σ2 (q | ⟨o, q, rfl, rfl⟩)
  · exact absurd q.2.1 hr
  · rcases q with ⟨q, _⟩ | ⟨_, _, rfl⟩
    · exact absurd h q
    · exact ⟨rfl, rfl⟩
theorem dk_add1 {σ : aW} {key : Int} (h : kyR key) (hr : ab_room1 (as_T σ.1) key) (hp : ¬ ab_pres (as_T σ.1) key) : ∀ r σ2, cR (ok_add σ key) (rf_add σ key) xc10 σ r σ2 → r = 1 ∧ σ2 = sB σ (ab_act σ.1 key).2 := by
  rintro r σ2 (q | ⟨o, q, rfl, rfl⟩)
  · exact ⟨q.2.2.2.1.mpr hp, q.2.2.2.2⟩
  · rcases q with ⟨q, _⟩ | ⟨_, q, _⟩
    · exact absurd h q
    · exact absurd hr q
theorem dk_add0 {σ : aW} {key : Int} (h : kyR key) (hr : ab_room1 (as_T σ.1) key) (hp : ab_pres (as_T σ.1) key) : ∀ r σ2, cR (ok_add σ key) (rf_add σ key) xc10 σ r σ2 → r = 0 ∧ σ2 = sB σ (ab_act σ.1 key).2 := by
  rintro r σ2 (q | ⟨o, q, rfl, rfl⟩)
  · exact ⟨q.2.2.1.elim id (fun e => absurd hp (q.2.2.2.1.mp e)), q.2.2.2.2⟩
  · rcases q with ⟨q, _⟩ | ⟨_, q, _⟩
    · exact absurd h q
    · exact absurd hr q
theorem dk_rem1 {σ : aW} {key : Int} (h : kyR key) (hp : ab_pres (as_T σ.1) key) : ∀ r σ2, cR (ok_remove σ key) (rf_remove σ key) xc1 σ r σ2 → r = 1 ∧ σ2 = sB σ (ab_act σ.1 (key + 500)).2 := by
  rintro r σ2 (q | ⟨o, q, rfl, rfl⟩)
  · exact ⟨q.2.2.1.mpr hp, q.2.2.2⟩
  · exact absurd h q.1
theorem dk_rem0 {σ : aW} {key : Int} (h : kyR key) (hp : ¬ ab_pres (as_T σ.1) key) : ∀ r σ2, cR (ok_remove σ key) (rf_remove σ key) xc1 σ r σ2 → r = 0 ∧ σ2 = sB σ (ab_act σ.1 (key + 500)).2 := by
  rintro r σ2 (q | ⟨o, q, rfl, rfl⟩)
  · exact ⟨q.2.1.elim id (fun e => absurd (q.2.2.1.mp e) hp), q.2.2.2⟩
  · exact absurd h q.1
theorem dk_begin {σ : aW} (h : as_R σ.1 = 0) : ∀ r σ2, cR (ok_begin σ) (rf_begin σ) xcS σ r σ2 → r = (((ab_lst (as_T σ.1).1 (as_T σ.1).2).length : Nat) : Int) ∧ σ2 = sB σ (ab_beg σ.1) := by
  rintro r σ2 (q | ⟨o, q, rfl, rfl⟩)
  · exact ⟨q.2.1, q.2.2⟩
  · have h1 : as_R σ2.1 = 1 := q.1
    omega
theorem dr_begin {σ : aW} (h : as_R σ.1 = 1) : ∀ r σ2, cR (ok_begin σ) (rf_begin σ) xcS σ r σ2 → r = -12 ∧ σ2 = σ := drS (fun v s q => by have h1 : as_R σ.1 = 0 := q.1; omega)
theorem dk_abandon {σ : aW} (h : as_R σ.1 = 1) : ∀ r σ2, cR (ok_abandon σ) (rf_abandon σ) xcS σ r σ2 → r = (as_C σ.1 : Int) ∧ σ2 = sB σ (ab_abn σ.1) := by
  rintro r σ2 (q | ⟨o, q, rfl, rfl⟩)
  · exact ⟨q.2.1, q.2.2⟩
  · have h1 : as_R σ2.1 = 0 := q.1
    omega
theorem dr_abandon {σ : aW} (h : as_R σ.1 = 0) : ∀ r σ2, cR (ok_abandon σ) (rf_abandon σ) xcS σ r σ2 → r = -12 ∧ σ2 = σ := drS (fun v s q => by have h1 : as_R σ.1 = 1 := q.1; omega)
theorem dk_set {σ : aW} {s x : Int} (h : 0 ≤ s ∧ s < 3) (hv : ab_val s x) : ∀ r σ2, cR (ok_set σ s x) (rf_set σ s x) xc20 σ r σ2 → r = as_E σ.1 s.toNat ∧ σ2 = sB σ (ab_set σ.1 s x) := by
  rintro r σ2 (q | ⟨o, q, rfl, rfl⟩)
  · exact ⟨q.2.2.1, q.2.2.2⟩
  · rcases q with ⟨q, _⟩ | ⟨_, q, _⟩
    · exact absurd h q
    · exact absurd hv q
theorem dr_setI {σ : aW} {s x : Int} (h : ¬ (0 ≤ s ∧ s < 3)) : ∀ r σ2, cR (ok_set σ s x) (rf_set σ s x) xc20 σ r σ2 → r = -10 ∧ σ2 = σ := by
  rintro r σ2 (q | ⟨o, q, rfl, rfl⟩)
  · exact absurd q.1 h
  · rcases q with ⟨_, rfl⟩ | ⟨q, _⟩
    · exact ⟨rfl, rfl⟩
    · exact absurd q h
theorem dr_setV {σ : aW} {s x : Int} (h : 0 ≤ s ∧ s < 3) (hv : ¬ ab_val s x) : ∀ r σ2, cR (ok_set σ s x) (rf_set σ s x) xc20 σ r σ2 → r = -11 ∧ σ2 = σ := by
  rintro r σ2 (q | ⟨o, q, rfl, rfl⟩)
  · exact absurd q.2.1 hv
  · rcases q with ⟨q, _⟩ | ⟨_, _, rfl⟩
    · exact absurd h q
    · exact ⟨rfl, rfl⟩
theorem dk_append {σ : aW} {c : Int} (h : 33 ≤ c ∧ c ≤ 126) {X : List Int} (hX : σ.2.2.2 = X) (hl : X.length ≠ 60) : ∀ r σ2, cR (ok_append σ c) (rf_append σ c) xc10 σ r σ2 → r = (X.length : Int) + 1 ∧ σ2 = (σ.1, σ.2.1, σ.2.2.1, X ++ [c]) := by
  subst hX
  rintro r σ2 (q | ⟨o, q, rfl, rfl⟩)
  · exact ⟨q.2.2.1, q.2.2.2⟩
  · rcases q with ⟨q, _⟩ | ⟨_, q, _⟩
    · exact absurd h q
    · exact absurd q hl
theorem dr_append {σ : aW} {c : Int} (h : ¬ (33 ≤ c ∧ c ≤ 126)) : ∀ r σ2, cR (ok_append σ c) (rf_append σ c) xc10 σ r σ2 → r = -11 ∧ σ2 = σ := by
  rintro r σ2 (q | ⟨o, q, rfl, rfl⟩)
  · exact absurd q.1 h
  · rcases q with ⟨_, rfl⟩ | ⟨q, _⟩
    · exact ⟨rfl, rfl⟩
    · exact absurd q h
theorem dk_execute {σ : aW} {acts : List Int} (h : (ab_ptx σ.2.2.2).2 = some acts) : ∀ r σ2, cR (ok_execute σ) (rf_execute σ) xc1 σ r σ2 → r = (ab_exe acts σ.1).1 ∧ σ2 = ((ab_exe acts σ.1).2, ab_save σ.2.1 σ.1, σ.2.2.1, []) := by
  rintro r σ2 (q | ⟨o, q, rfl, rfl⟩)
  · obtain ⟨a9, g1, g2, g3⟩ := q
    cases g1.symm.trans h
    exact ⟨g2, g3⟩
  · exact absurd (h.symm.trans q.1) (by simp)
theorem dr_execute {σ : aW} (h : σ.2.2.2 = []) : ∀ r σ2, cR (ok_execute σ) (rf_execute σ) xc1 σ r σ2 → r = -11 ∧ σ2 = σ := dr1 (fun v s q => by
  obtain ⟨a9, g1, g2, g3⟩ := q
  rw [h] at g1
  rw [show (ab_ptx ([] : List Int)).2 = none from rfl] at g1
  cases g1)
theorem dr_undo {σ : aW} (h : σ.2.1 = []) : ∀ r σ2, cR (ok_undo σ) (rf_undo σ) xcS σ r σ2 → r = -12 ∧ σ2 = σ := drS (fun v s q => by
  obtain ⟨B, g1, -⟩ := q
  rw [h] at g1
  cases g1)
theorem dk_keep {σ : aW} {s : Int} (h : 0 ≤ s ∧ s < 2) : ∀ r σ2, cR (ok_keep σ s) (rf_keep σ s) xc1 σ r σ2 → r = ab_np (as_T σ.1).1 (as_T σ.1).2 ∧ σ2 = (σ.1, σ.2.1, ab_snap σ.2.2.1 s σ.1, σ.2.2.2) := by
  rintro r σ2 (q | ⟨o, q, rfl, rfl⟩)
  · exact ⟨q.2.1, q.2.2⟩
  · exact absurd h q.1
theorem dr_goBackA {σ : aW} {s : Int} (h : ¬ (0 ≤ s ∧ s < 2)) : ∀ r σ2, cR (ok_goBack σ s) (rf_goBack σ s) xc10 σ r σ2 → r = -11 ∧ σ2 = σ := by
  rintro r σ2 (q | ⟨o, q, rfl, rfl⟩)
  · exact absurd q.1 h
  · rcases q with ⟨_, rfl⟩ | ⟨q, _⟩
    · exact ⟨rfl, rfl⟩
    · exact absurd q h
theorem dr_goBackS {σ : aW} {s : Int} (h : 0 ≤ s ∧ s < 2) (hn : σ.2.2.1 s.toNat = none) : ∀ r σ2, cR (ok_goBack σ s) (rf_goBack σ s) xc10 σ r σ2 → r = -12 ∧ σ2 = σ := by
  rintro r σ2 (q | ⟨o, q, rfl, rfl⟩)
  · obtain ⟨-, B, g1, -⟩ := q
    rw [hn] at g1
    cases g1
  · rcases q with ⟨q, _⟩ | ⟨_, _, rfl⟩
    · exact absurd h q
    · exact ⟨rfl, rfl⟩
theorem cn_e {A : aS} {S : List aS} {X : List Int} {w : Int} (h : w < 7) : ab_cn A S X w = ab_cn A [] [] w := by
  unfold ab_cn
  rw [if_pos h, if_pos h]
theorem cn_7 {A : aS} {S : List aS} {X : List Int} : ab_cn A S X 7 = (S.length : Int) := by
  unfold ab_cn
  rw [if_neg (by decide), if_pos rfl]
theorem cn_8 {A : aS} {S : List aS} {X : List Int} : ab_cn A S X 8 = (X.length : Int) := by
  unfold ab_cn
  rw [if_neg (by decide), if_neg (by decide)]
theorem reb_0 {A : aS} (h : as_R A = 0) : ab_reb A 0 = 0 := by
  unfold ab_reb
  rw [if_pos h, if_neg (by decide)]
theorem reb_1 {A : aS} (h : as_R A = 1) : 1 ≤ ab_reb A 0 ∧ ab_reb A 0 ≤ 2 := by
  unfold ab_reb
  rw [if_neg (by omega), if_pos rfl]
  split <;> decide
theorem ivE.R {σ : aW} (h : ivE σ) : as_R σ.1 = 0 ∨ as_R σ.1 = 1 := by
  obtain ⟨b, h⟩ := h
  exact h.1.2.2.1.2.2.2
theorem ivE.g {σ : aW} (h : ivE σ) : ab_g (as_T σ.1).1 (as_T σ.1).2 := by
  obtain ⟨b, h⟩ := h
  exact h.1.1
theorem ivE_rl {ok : Int → aW → Prop} {σ σ1 : aW} {r : Int} (h : ivE σ) (hok : ∀ b v s, iv b σ → ok v s → iv (b + 248) s) (a : ok r σ1) : ivE σ1 := by
  obtain ⟨b, h⟩ := h
  exact ⟨b + 248, hok b r σ1 h a⟩
theorem ivE_add {σ : aW} (h : ivE σ) {x : Int} (hk : kyR x) (hr : ab_room1 (as_T σ.1) x) : ivE (sB σ (ab_act σ.1 x).2) := by
  obtain ⟨b, h⟩ := h
  by_cases hp : ab_pres (as_T σ.1) x
  · exact ⟨b + 248, iv_add h (v := 0) ⟨hk, hr, Or.inl rfl, ⟨fun q => absurd q (by decide), fun q => absurd hp q⟩, rfl⟩⟩
  · exact ⟨b + 248, iv_add h (v := 1) ⟨hk, hr, Or.inr rfl, ⟨fun _ => hp, fun _ => rfl⟩, rfl⟩⟩
theorem ivE_rem {σ : aW} (h : ivE σ) {x : Int} (hk : kyR x) : ivE (sB σ (ab_act σ.1 (x + 500)).2) := by
  obtain ⟨b, h⟩ := h
  by_cases hp : ab_pres (as_T σ.1) x
  · exact ⟨b + 248, iv_remove h (v := 1) ⟨hk, Or.inr rfl, ⟨fun _ => hp, fun _ => rfl⟩, rfl⟩⟩
  · exact ⟨b + 248, iv_remove h (v := 0) ⟨hk, Or.inl rfl, ⟨fun q => absurd q (by decide), fun q => absurd q hp⟩, rfl⟩⟩
theorem ivE_idle {σ : aW} (h : ivE σ) : ivE (sB σ (ab_act σ.1 (-1)).2) := by
  obtain ⟨b, h⟩ := h
  exact ⟨b + 248, iv_idle h ⟨rfl, rfl⟩⟩
theorem ivE_begin {σ : aW} (h : ivE σ) (hr : as_R σ.1 = 0) : ivE (sB σ (ab_beg σ.1)) := by
  obtain ⟨b, h⟩ := h
  exact ⟨b + 248, iv_begin h ⟨hr, rfl, rfl⟩⟩
theorem ivE_abandon {σ : aW} (h : ivE σ) (hr : as_R σ.1 = 1) : ivE (sB σ (ab_abn σ.1)) := by
  obtain ⟨b, h⟩ := h
  exact ⟨b + 248, iv_abandon h ⟨hr, rfl, rfl⟩⟩
theorem ivE_set {σ : aW} (h : ivE σ) {s x : Int} (hs : 0 ≤ s ∧ s < 3) (hv : ab_val s x) : ivE (sB σ (ab_set σ.1 s x)) := by
  obtain ⟨b, h⟩ := h
  exact ⟨b + 248, iv_set h ⟨hs, hv, rfl, rfl⟩⟩
theorem ivE_append {σ : aW} (h : ivE σ) {c : Int} (hc : 33 ≤ c ∧ c ≤ 126) {X : List Int} (hX : σ.2.2.2 = X) (hl : X.length ≠ 60) : ivE (σ.1, σ.2.1, σ.2.2.1, X ++ [c]) := by
  subst hX
  obtain ⟨b, h⟩ := h
  exact ⟨b + 248, iv_append h ⟨hc, hl, rfl, rfl⟩⟩
theorem ivE_execute {σ : aW} (h : ivE σ) {acts : List Int} (ha : (ab_ptx σ.2.2.2).2 = some acts) : ivE ((ab_exe acts σ.1).2, ab_save σ.2.1 σ.1, σ.2.2.1, []) := by
  obtain ⟨b, h⟩ := h
  exact ⟨b + 248, iv_execute h ⟨acts, ha, rfl, rfl⟩⟩
theorem ivE_keep {σ : aW} (h : ivE σ) {s : Int} (hs : 0 ≤ s ∧ s < 2) : ivE (σ.1, σ.2.1, ab_snap σ.2.2.1 s σ.1, σ.2.2.2) := by
  obtain ⟨b, h⟩ := h
  exact ⟨b + 248, iv_keep h ⟨hs, rfl, rfl⟩⟩
theorem ivE_undo {σ : aW} (h : ivE σ) {B : aS} (hB : σ.2.1.getLast? = some B) : ivE (B, σ.2.1.dropLast, σ.2.2) := by
  obtain ⟨b, h⟩ := h
  exact ⟨b + 248, iv_undo h ⟨B, hB, rfl, rfl⟩⟩
theorem ivE_goBack {σ : aW} (h : ivE σ) {s : Int} (hs : 0 ≤ s ∧ s < 2) {B : aS} (hB : σ.2.2.1 s.toNat = some B) : ivE (sB σ B) := by
  obtain ⟨b, h⟩ := h
  exact ⟨b + 248, iv_goBack h ⟨hs, B, hB, rfl, rfl⟩⟩
