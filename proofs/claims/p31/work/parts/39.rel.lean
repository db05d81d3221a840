/-! the abstract machine as relations: the call is answered by v (o = 0), or refused with the number o -/
abbrev aW := aS × List aS × (Nat → Option aS) × List Int
def rl (ok : Int → aW → Prop) (ref : Int → Prop) (σ : aW) (o v : Int) (σ' : aW) : Prop := (o = 0 ∧ ok v σ') ∨ (ref o ∧ σ' = σ)
theorem rl_det {ok : Int → aW → Prop} {ref : Int → Prop} {σ : aW} (h1 : ∀ v1 s1 v2 s2, ok v1 s1 → ok v2 s2 → v1 = v2 ∧ s1 = s2) (h2 : ∀ o1 o2, ref o1 → ref o2 → o1 = o2) (h3 : ∀ v s o, ok v s → ref o → False) (h4 : ∀ o, ref o → o ≠ 0) {o1 v1 o2 v2 : Int} {s1 s2 : aW} (a : rl ok ref σ o1 v1 s1) (b : rl ok ref σ o2 v2 s2) : o1 = o2 ∧ s1 = s2 ∧ (o1 = 0 → v1 = v2) := by
  rcases a with ⟨rfl, a⟩ | ⟨a, rfl⟩ <;> rcases b with ⟨rfl, b⟩ | ⟨b, rfl⟩
  · exact ⟨rfl, (h1 _ _ _ _ a b).2, fun _ => (h1 _ _ _ _ a b).1⟩
  · exact (h3 _ _ _ a b).elim
  · exact (h3 _ _ _ b a).elim
  · exact ⟨h2 _ _ a b, rfl, fun h => absurd h (h4 _ a)⟩
theorem bu {p : Prop} {v1 v2 : Int} (a : v1 = 0 ∨ v1 = 1) (a2 : v1 = 1 ↔ p) (b : v2 = 0 ∨ v2 = 1) (b2 : v2 = 1 ↔ p) : v1 = v2 := by
  by_cases h : p
  · rw [a2.mpr h, b2.mpr h]
  · rcases a with a | a
    · rcases b with b | b
      · rw [a, b]
      · exact absurd (b2.mp b) h
    · exact absurd (a2.mp a) h
abbrev kyR (key : Int) : Prop := 0 ≤ key ∧ key < 500
def iv (b : Int) (σ : aW) : Prop := ab_I b σ.1 ∧ (∀ B ∈ σ.2.1, ab_I b B) ∧ (∀ i B, i < 2 → σ.2.2.1 i = some B → ab_I b B) ∧ (σ.2.2.2.length ≤ 60 ∧ ∀ c ∈ σ.2.2.2, 33 ≤ c ∧ c ≤ 126)
theorem iv.mono {b b2 : Int} {σ : aW} (h : iv b σ) (hb : b ≤ b2) : iv b2 σ := ⟨h.1.mono hb, fun B hB => (h.2.1 B hB).mono hb, fun i B hi hB => (h.2.2.1 i B hi hB).mono hb, h.2.2.2⟩
def ok_add (σ : aW) (key v : Int) (σ' : aW) : Prop := kyR key ∧ ab_room1 (as_T σ.1) key ∧ (v = 0 ∨ v = 1) ∧ (v = 1 ↔ ¬ ab_pres (as_T σ.1) key) ∧ σ' = ((ab_act σ.1 key).2, ab_save σ.2.1 σ.1, σ.2.2)
def rf_add (σ : aW) (key o : Int) : Prop := (¬ kyR key ∧ o = 1) ∨ (kyR key ∧ ¬ ab_room1 (as_T σ.1) key ∧ o = 2)
def ok_remove (σ : aW) (key v : Int) (σ' : aW) : Prop := kyR key ∧ (v = 0 ∨ v = 1) ∧ (v = 1 ↔ ab_pres (as_T σ.1) key) ∧ σ' = ((ab_act σ.1 (key + 500)).2, ab_save σ.2.1 σ.1, σ.2.2)
def rf_remove (_ : aW) (key o : Int) : Prop := ¬ kyR key ∧ o = 1
def ok_idle (σ : aW) (v : Int) (σ' : aW) : Prop := v = (ab_act σ.1 (-1)).1 ∧ σ' = ((ab_act σ.1 (-1)).2, ab_save σ.2.1 σ.1, σ.2.2)
def rf_idle (_ : aW) (_ : Int) : Prop := False
def ok_begin (σ : aW) (v : Int) (σ' : aW) : Prop := as_R σ.1 = 0 ∧ v = (((ab_lst (as_T σ.1).1 (as_T σ.1).2).length : Nat) : Int) ∧ σ' = (ab_beg σ.1, ab_save σ.2.1 σ.1, σ.2.2)
def rf_begin (σ : aW) (o : Int) : Prop := as_R σ.1 = 1 ∧ o = 1
def ok_abandon (σ : aW) (v : Int) (σ' : aW) : Prop := as_R σ.1 = 1 ∧ v = (as_C σ.1 : Int) ∧ σ' = (ab_abn σ.1, ab_save σ.2.1 σ.1, σ.2.2)
def rf_abandon (σ : aW) (o : Int) : Prop := as_R σ.1 = 0 ∧ o = 1
def ok_set (σ : aW) (s x v : Int) (σ' : aW) : Prop := (0 ≤ s ∧ s < 3) ∧ ab_val s x ∧ v = as_E σ.1 s.toNat ∧ σ' = (ab_set σ.1 s x, ab_save σ.2.1 σ.1, σ.2.2)
def rf_set (_ : aW) (s x o : Int) : Prop := (¬ (0 ≤ s ∧ s < 3) ∧ o = 1) ∨ ((0 ≤ s ∧ s < 3) ∧ ¬ ab_val s x ∧ o = 2)
def ok_append (σ : aW) (c v : Int) (σ' : aW) : Prop := (33 ≤ c ∧ c ≤ 126) ∧ σ.2.2.2.length ≠ 60 ∧ v = (σ.2.2.2.length : Int) + 1 ∧ σ' = (σ.1, σ.2.1, σ.2.2.1, σ.2.2.2 ++ [c])
def rf_append (σ : aW) (c o : Int) : Prop := (¬ (33 ≤ c ∧ c ≤ 126) ∧ o = 1) ∨ ((33 ≤ c ∧ c ≤ 126) ∧ σ.2.2.2.length = 60 ∧ o = 2)
def ok_clearBuffer (σ : aW) (v : Int) (σ' : aW) : Prop := v = (σ.2.2.2.length : Int) ∧ σ' = (σ.1, σ.2.1, σ.2.2.1, [])
def rf_clearBuffer (_ : aW) (_ : Int) : Prop := False
def ok_firstError (σ : aW) (v : Int) (σ' : aW) : Prop := v = ((ab_ptx σ.2.2.2).1 : Int) ∧ σ' = σ
def rf_firstError (_ : aW) (_ : Int) : Prop := False
def ok_execute (σ : aW) (v : Int) (σ' : aW) : Prop := ∃ acts, (ab_ptx σ.2.2.2).2 = some acts ∧ v = (ab_exe acts σ.1).1 ∧ σ' = ((ab_exe acts σ.1).2, ab_save σ.2.1 σ.1, σ.2.2.1, [])
def rf_execute (σ : aW) (o : Int) : Prop := (ab_ptx σ.2.2.2).2 = none ∧ o = 1
def ok_undo (σ : aW) (v : Int) (σ' : aW) : Prop := ∃ B, σ.2.1.getLast? = some B ∧ v = (σ.2.1.length : Int) - 1 ∧ σ' = (B, σ.2.1.dropLast, σ.2.2)
def rf_undo (σ : aW) (o : Int) : Prop := σ.2.1 = [] ∧ o = 1
def ok_keep (σ : aW) (s v : Int) (σ' : aW) : Prop := (0 ≤ s ∧ s < 2) ∧ v = ab_np (as_T σ.1).1 (as_T σ.1).2 ∧ σ' = (σ.1, σ.2.1, ab_snap σ.2.2.1 s σ.1, σ.2.2.2)
def rf_keep (_ : aW) (s o : Int) : Prop := ¬ (0 ≤ s ∧ s < 2) ∧ o = 1
def ok_goBack (σ : aW) (s v : Int) (σ' : aW) : Prop := (0 ≤ s ∧ s < 2) ∧ ∃ B, σ.2.2.1 s.toNat = some B ∧ v = ab_np (as_T B).1 (as_T B).2 ∧ σ' = (B, ab_save σ.2.1 σ.1, σ.2.2)
def rf_goBack (σ : aW) (s o : Int) : Prop := (¬ (0 ≤ s ∧ s < 2) ∧ o = 1) ∨ ((0 ≤ s ∧ s < 2) ∧ σ.2.2.1 s.toNat = none ∧ o = 2)
def ok_contains (σ : aW) (key v : Int) (σ' : aW) : Prop := kyR key ∧ (v = 0 ∨ v = 1) ∧ (v = 1 ↔ ab_pres (as_T σ.1) key) ∧ σ' = σ
def rf_contains (_ : aW) (key o : Int) : Prop := ¬ kyR key ∧ o = 1
def ok_near (σ : aW) (key w v : Int) (σ' : aW) : Prop := (kyR key ∧ 0 ≤ w ∧ w ≤ 3) ∧ ab_nr (as_T σ.1) key w v ∧ σ' = σ
def rf_near (_ : aW) (key w o : Int) : Prop := ¬ (kyR key ∧ 0 ≤ w ∧ w ≤ 3) ∧ o = 1
def ok_rank (σ : aW) (key v : Int) (σ' : aW) : Prop := kyR key ∧ v = ab_rank (as_T σ.1).1 (as_T σ.1).2 key ∧ σ' = σ
def rf_rank (_ : aW) (key o : Int) : Prop := ¬ kyR key ∧ o = 1
def ok_keyAt (σ : aW) (rk v : Int) (σ' : aW) : Prop := 0 ≤ rk ∧ ab_kat (as_T σ.1).1 (as_T σ.1).2 rk v ∧ σ' = σ
def rf_keyAt (_ : aW) (rk o : Int) : Prop := rk < 0 ∧ o = 1
def ok_node (σ : aW) (s node w v : Int) (σ' : aW) : Prop := (0 ≤ node ∧ 0 ≤ w ∧ w ≤ 4) ∧ v = (if s = 0 then ab_node (as_T σ.1).1 (as_T σ.1).2 node w else ab_node (as_U σ.1).1 (as_U σ.1).2 node w) ∧ σ' = σ
def rf_node (_ : aW) (_ node w o : Int) : Prop := ¬ (0 ≤ node ∧ 0 ≤ w ∧ w ≤ 4) ∧ o = 1
def ok_path (σ : aW) (key ix v : Int) (σ' : aW) : Prop := (kyR key ∧ 0 ≤ ix) ∧ v = ((ab_s key (as_T σ.1).1)[ix.toNat]?).getD (-1) ∧ σ' = σ
def rf_path (_ : aW) (key ix o : Int) : Prop := ¬ (kyR key ∧ 0 ≤ ix) ∧ o = 1
def ok_tree (σ : aW) (s w v : Int) (σ' : aW) : Prop := (0 ≤ w ∧ w ≤ 6) ∧ v = (if s = 0 then ab_tr (as_T σ.1) w else ab_tr (as_U σ.1) w) ∧ σ' = σ
def rf_tree (_ : aW) (_ w o : Int) : Prop := ¬ (0 ≤ w ∧ w ≤ 6) ∧ o = 1
def ok_rebuild (σ : aW) (w v : Int) (σ' : aW) : Prop := (0 ≤ w ∧ w ≤ 5) ∧ v = ab_reb σ.1 w ∧ σ' = σ
def rf_rebuild (_ : aW) (w o : Int) : Prop := ¬ (0 ≤ w ∧ w ≤ 5) ∧ o = 1
def ok_queued (σ : aW) (ix v : Int) (σ' : aW) : Prop := 0 ≤ ix ∧ v = ((as_Q σ.1)[ix.toNat]?).getD (-1) ∧ σ' = σ
def rf_queued (_ : aW) (ix o : Int) : Prop := ix < 0 ∧ o = 1
def ok_count (σ : aW) (w v : Int) (σ' : aW) : Prop := (0 ≤ w ∧ w ≤ 8) ∧ v = ab_cn σ.1 σ.2.1 σ.2.2.2 w ∧ σ' = σ
def rf_count (_ : aW) (w o : Int) : Prop := ¬ (0 ≤ w ∧ w ≤ 8) ∧ o = 1
def ok_setting (σ : aW) (s v : Int) (σ' : aW) : Prop := (0 ≤ s ∧ s < 3) ∧ v = as_E σ.1 s.toNat ∧ σ' = σ
def rf_setting (_ : aW) (s o : Int) : Prop := ¬ (0 ≤ s ∧ s < 3) ∧ o = 1
def ok_untilExchange (σ : aW) (sp v : Int) (σ' : aW) : Prop := (1 ≤ sp ∧ sp ≤ 8) ∧ v = (if as_R σ.1 = 1 then ab_cl σ.1 sp else -1) ∧ σ' = σ
def rf_untilExchange (_ : aW) (sp o : Int) : Prop := ¬ (1 ≤ sp ∧ sp ≤ 8) ∧ o = 1
def ok_longest (σ : aW) (sp v : Int) (σ' : aW) : Prop := (1 ≤ sp ∧ sp ≤ 8) ∧ v = (if as_R σ.1 = 1 then ab_lg σ.1 sp else -1) ∧ σ' = σ
def rf_longest (_ : aW) (sp o : Int) : Prop := ¬ (1 ≤ sp ∧ sp ≤ 8) ∧ o = 1
def ok_leastSpeed (σ : aW) (c v : Int) (σ' : aW) : Prop := 1 ≤ c ∧ ((as_R σ.1 = 0 ∧ v = -1) ∨ (as_R σ.1 = 1 ∧ ab_ls σ.1 c v)) ∧ σ' = σ
def rf_leastSpeed (_ : aW) (c o : Int) : Prop := c < 1 ∧ o = 1
/-! answers and new states are determined -/
theorem det_add {σ : aW} {x o1 v1 o2 v2 : Int} {s1 s2 : aW} (a : rl (ok_add σ x) (rf_add σ x) σ o1 v1 s1) (b : rl (ok_add σ x) (rf_add σ x) σ o2 v2 s2) : o1 = o2 ∧ s1 = s2 ∧ (o1 = 0 → v1 = v2) := by
  refine rl_det (fun v1 s1 v2 s2 a b => ?_) (fun o1 o2 a b => ?_) (fun v s o a b => ?_) (fun o a => ?_) a b
  · exact ⟨bu a.2.2.1 a.2.2.2.1 b.2.2.1 b.2.2.2.1, a.2.2.2.2.trans b.2.2.2.2.symm⟩
  · rcases a with ⟨a1, a2⟩ | ⟨a1, a2, a3⟩ <;> rcases b with ⟨b1, b2⟩ | ⟨b1, b2, b3⟩
    · omega
    · exact absurd b1 a1
    · exact absurd a1 b1
    · omega
  · rcases b with ⟨b1, b2⟩ | ⟨b1, b2, b3⟩
    · exact b1 a.1
    · exact b2 a.2.1
  · rcases a with ⟨a1, a2⟩ | ⟨a1, a2, a3⟩ <;> omega
theorem det_remove {σ : aW} {x o1 v1 o2 v2 : Int} {s1 s2 : aW} (a : rl (ok_remove σ x) (rf_remove σ x) σ o1 v1 s1) (b : rl (ok_remove σ x) (rf_remove σ x) σ o2 v2 s2) : o1 = o2 ∧ s1 = s2 ∧ (o1 = 0 → v1 = v2) :=
  rl_det (fun v1 s1 v2 s2 a b => ⟨bu a.2.1 a.2.2.1 b.2.1 b.2.2.1, a.2.2.2.trans b.2.2.2.symm⟩) (fun o1 o2 a b => a.2.trans b.2.symm) (fun v s o a b => b.1 a.1) (fun o a => by have := a.2; omega) a b
theorem det_idle {σ : aW} {o1 v1 o2 v2 : Int} {s1 s2 : aW} (a : rl (ok_idle σ) (rf_idle σ) σ o1 v1 s1) (b : rl (ok_idle σ) (rf_idle σ) σ o2 v2 s2) : o1 = o2 ∧ s1 = s2 ∧ (o1 = 0 → v1 = v2) :=
  rl_det (fun v1 s1 v2 s2 a b => ⟨a.1.trans b.1.symm, a.2.trans b.2.symm⟩) (fun o1 o2 a b => a.elim) (fun v s o a b => b) (fun o a => a.elim) a b
theorem det_begin {σ : aW} {o1 v1 o2 v2 : Int} {s1 s2 : aW} (a : rl (ok_begin σ) (rf_begin σ) σ o1 v1 s1) (b : rl (ok_begin σ) (rf_begin σ) σ o2 v2 s2) : o1 = o2 ∧ s1 = s2 ∧ (o1 = 0 → v1 = v2) :=
  rl_det (fun v1 s1 v2 s2 a b => ⟨a.2.1.trans b.2.1.symm, a.2.2.trans b.2.2.symm⟩) (fun o1 o2 a b => a.2.trans b.2.symm) (fun v s o a b => by have h1 := a.1; have h2 := b.1; omega) (fun o a => by have := a.2; omega) a b
theorem det_abandon {σ : aW} {o1 v1 o2 v2 : Int} {s1 s2 : aW} (a : rl (ok_abandon σ) (rf_abandon σ) σ o1 v1 s1) (b : rl (ok_abandon σ) (rf_abandon σ) σ o2 v2 s2) : o1 = o2 ∧ s1 = s2 ∧ (o1 = 0 → v1 = v2) :=
  rl_det (fun v1 s1 v2 s2 a b => ⟨a.2.1.trans b.2.1.symm, a.2.2.trans b.2.2.symm⟩) (fun o1 o2 a b => a.2.trans b.2.symm) (fun v s o a b => by have h1 := a.1; have h2 := b.1; omega) (fun o a => by have := a.2; omega) a b
theorem det_set {σ : aW} {x y o1 v1 o2 v2 : Int} {s1 s2 : aW} (a : rl (ok_set σ x y) (rf_set σ x y) σ o1 v1 s1) (b : rl (ok_set σ x y) (rf_set σ x y) σ o2 v2 s2) : o1 = o2 ∧ s1 = s2 ∧ (o1 = 0 → v1 = v2) := by
  refine rl_det (fun v1 s1 v2 s2 a b => ⟨a.2.2.1.trans b.2.2.1.symm, a.2.2.2.trans b.2.2.2.symm⟩) (fun o1 o2 a b => ?_) (fun v s o a b => ?_) (fun o a => ?_) a b
  · rcases a with ⟨a1, a2⟩ | ⟨a1, a2, a3⟩ <;> rcases b with ⟨b1, b2⟩ | ⟨b1, b2, b3⟩
    · omega
    · exact absurd b1 a1
    · exact absurd a1 b1
    · omega
  · rcases b with ⟨b1, b2⟩ | ⟨b1, b2, b3⟩
    · exact b1 a.1
    · exact b2 a.2.1
  · rcases a with ⟨a1, a2⟩ | ⟨a1, a2, a3⟩ <;> omega
theorem det_append {σ : aW} {x o1 v1 o2 v2 : Int} {s1 s2 : aW} (a : rl (ok_append σ x) (rf_append σ x) σ o1 v1 s1) (b : rl (ok_append σ x) (rf_append σ x) σ o2 v2 s2) : o1 = o2 ∧ s1 = s2 ∧ (o1 = 0 → v1 = v2) := by
  refine rl_det (fun v1 s1 v2 s2 a b => ⟨a.2.2.1.trans b.2.2.1.symm, a.2.2.2.trans b.2.2.2.symm⟩) (fun o1 o2 a b => ?_) (fun v s o a b => ?_) (fun o a => ?_) a b
  · rcases a with ⟨a1, a2⟩ | ⟨a1, a2, a3⟩ <;> rcases b with ⟨b1, b2⟩ | ⟨b1, b2, b3⟩
    · omega
    · exact absurd b1 a1
    · exact absurd a1 b1
    · omega
  · rcases b with ⟨b1, b2⟩ | ⟨b1, b2, b3⟩
    · exact b1 a.1
    · exact a.2.1 b2
  · rcases a with ⟨a1, a2⟩ | ⟨a1, a2, a3⟩ <;> omega
theorem det_clearBuffer {σ : aW} {o1 v1 o2 v2 : Int} {s1 s2 : aW} (a : rl (ok_clearBuffer σ) (rf_clearBuffer σ) σ o1 v1 s1) (b : rl (ok_clearBuffer σ) (rf_clearBuffer σ) σ o2 v2 s2) : o1 = o2 ∧ s1 = s2 ∧ (o1 = 0 → v1 = v2) :=
  rl_det (fun v1 s1 v2 s2 a b => ⟨a.1.trans b.1.symm, a.2.trans b.2.symm⟩) (fun o1 o2 a b => a.elim) (fun v s o a b => b) (fun o a => a.elim) a b
theorem det_firstError {σ : aW} {o1 v1 o2 v2 : Int} {s1 s2 : aW} (a : rl (ok_firstError σ) (rf_firstError σ) σ o1 v1 s1) (b : rl (ok_firstError σ) (rf_firstError σ) σ o2 v2 s2) : o1 = o2 ∧ s1 = s2 ∧ (o1 = 0 → v1 = v2) :=
  rl_det (fun v1 s1 v2 s2 a b => ⟨a.1.trans b.1.symm, a.2.trans b.2.symm⟩) (fun o1 o2 a b => a.elim) (fun v s o a b => b) (fun o a => a.elim) a b
theorem det_execute {σ : aW} {o1 v1 o2 v2 : Int} {s1 s2 : aW} (a : rl (ok_execute σ) (rf_execute σ) σ o1 v1 s1) (b : rl (ok_execute σ) (rf_execute σ) σ o2 v2 s2) : o1 = o2 ∧ s1 = s2 ∧ (o1 = 0 → v1 = v2) := by
  refine rl_det (fun v1 s1 v2 s2 a b => ?_) (fun o1 o2 a b => a.2.trans b.2.symm) (fun v s o a b => ?_) (fun o a => by have := a.2; omega) a b
  · obtain ⟨x1, e1, rfl, rfl⟩ := a
    obtain ⟨x2, e2, rfl, rfl⟩ := b
    cases e1.symm.trans e2
    exact ⟨rfl, rfl⟩
  · obtain ⟨x1, e1, -⟩ := a
    exact absurd (e1.symm.trans b.1) (by simp)
theorem det_undo {σ : aW} {o1 v1 o2 v2 : Int} {s1 s2 : aW} (a : rl (ok_undo σ) (rf_undo σ) σ o1 v1 s1) (b : rl (ok_undo σ) (rf_undo σ) σ o2 v2 s2) : o1 = o2 ∧ s1 = s2 ∧ (o1 = 0 → v1 = v2) := by
  refine rl_det (fun v1 s1 v2 s2 a b => ?_) (fun o1 o2 a b => a.2.trans b.2.symm) (fun v s o a b => ?_) (fun o a => by have := a.2; omega) a b
  · obtain ⟨x1, e1, rfl, rfl⟩ := a
    obtain ⟨x2, e2, rfl, rfl⟩ := b
    cases e1.symm.trans e2
    exact ⟨rfl, rfl⟩
  · obtain ⟨x1, e1, -⟩ := a
    rw [b.1] at e1
    cases e1
theorem det_keep {σ : aW} {x o1 v1 o2 v2 : Int} {s1 s2 : aW} (a : rl (ok_keep σ x) (rf_keep σ x) σ o1 v1 s1) (b : rl (ok_keep σ x) (rf_keep σ x) σ o2 v2 s2) : o1 = o2 ∧ s1 = s2 ∧ (o1 = 0 → v1 = v2) :=
  rl_det (fun v1 s1 v2 s2 a b => ⟨a.2.1.trans b.2.1.symm, a.2.2.trans b.2.2.symm⟩) (fun o1 o2 a b => a.2.trans b.2.symm) (fun v s o a b => b.1 a.1) (fun o a => by have := a.2; omega) a b
theorem det_goBack {σ : aW} {x o1 v1 o2 v2 : Int} {s1 s2 : aW} (a : rl (ok_goBack σ x) (rf_goBack σ x) σ o1 v1 s1) (b : rl (ok_goBack σ x) (rf_goBack σ x) σ o2 v2 s2) : o1 = o2 ∧ s1 = s2 ∧ (o1 = 0 → v1 = v2) := by
  refine rl_det (fun v1 s1 v2 s2 a b => ?_) (fun o1 o2 a b => ?_) (fun v s o a b => ?_) (fun o a => ?_) a b
  · obtain ⟨-, x1, e1, rfl, rfl⟩ := a
    obtain ⟨-, x2, e2, rfl, rfl⟩ := b
    cases e1.symm.trans e2
    exact ⟨rfl, rfl⟩
  · rcases a with ⟨a1, a2⟩ | ⟨a1, a2, a3⟩ <;> rcases b with ⟨b1, b2⟩ | ⟨b1, b2, b3⟩
    · omega
    · exact absurd b1 a1
    · exact absurd a1 b1
    · omega
  · obtain ⟨h1, x1, e1, -⟩ := a
    rcases b with ⟨b1, b2⟩ | ⟨b1, b2, b3⟩
    · exact b1 h1
    · rw [b2] at e1
      cases e1
  · rcases a with ⟨a1, a2⟩ | ⟨a1, a2, a3⟩ <;> omega
theorem det_contains {σ : aW} {x o1 v1 o2 v2 : Int} {s1 s2 : aW} (a : rl (ok_contains σ x) (rf_contains σ x) σ o1 v1 s1) (b : rl (ok_contains σ x) (rf_contains σ x) σ o2 v2 s2) : o1 = o2 ∧ s1 = s2 ∧ (o1 = 0 → v1 = v2) :=
  rl_det (fun v1 s1 v2 s2 a b => ⟨bu a.2.1 a.2.2.1 b.2.1 b.2.2.1, a.2.2.2.trans b.2.2.2.symm⟩) (fun o1 o2 a b => a.2.trans b.2.symm) (fun v s o a b => b.1 a.1) (fun o a => by have := a.2; omega) a b
theorem det_near {b9 : Int} {σ : aW} (hI : iv b9 σ) {x y o1 v1 o2 v2 : Int} {s1 s2 : aW} (a : rl (ok_near σ x y) (rf_near σ x y) σ o1 v1 s1) (b : rl (ok_near σ x y) (rf_near σ x y) σ o2 v2 s2) : o1 = o2 ∧ s1 = s2 ∧ (o1 = 0 → v1 = v2) :=
  rl_det (fun v1 s1 v2 s2 a b => ⟨ab_nr_un hI.1.1 a.2.1 b.2.1, a.2.2.trans b.2.2.symm⟩) (fun o1 o2 a b => a.2.trans b.2.symm) (fun v s o a b => b.1 a.1) (fun o a => by have := a.2; omega) a b
theorem det_keyAt {b9 : Int} {σ : aW} (hI : iv b9 σ) {x o1 v1 o2 v2 : Int} {s1 s2 : aW} (a : rl (ok_keyAt σ x) (rf_keyAt σ x) σ o1 v1 s1) (b : rl (ok_keyAt σ x) (rf_keyAt σ x) σ o2 v2 s2) : o1 = o2 ∧ s1 = s2 ∧ (o1 = 0 → v1 = v2) :=
  rl_det (fun v1 s1 v2 s2 a b => ⟨ab_kat_un hI.1.1.1 a.2.1 b.2.1, a.2.2.trans b.2.2.symm⟩) (fun o1 o2 a b => a.2.trans b.2.symm) (fun v s o a b => by have h1 := a.1; have h2 := b.1; omega) (fun o a => by have := a.2; omega) a b
theorem det_leastSpeed {σ : aW} {x o1 v1 o2 v2 : Int} {s1 s2 : aW} (a : rl (ok_leastSpeed σ x) (rf_leastSpeed σ x) σ o1 v1 s1) (b : rl (ok_leastSpeed σ x) (rf_leastSpeed σ x) σ o2 v2 s2) : o1 = o2 ∧ s1 = s2 ∧ (o1 = 0 → v1 = v2) := by
  refine rl_det (fun v1 s1 v2 s2 a b => ?_) (fun o1 o2 a b => a.2.trans b.2.symm) (fun v s o a b => by have h1 := a.1; have h2 := b.1; omega) (fun o a => by have := a.2; omega) a b
  obtain ⟨-, a1, rfl⟩ := a
  obtain ⟨-, b1, rfl⟩ := b
  refine ⟨?_, rfl⟩
  rcases a1 with ⟨a1, a2⟩ | ⟨a1, a2⟩ <;> rcases b1 with ⟨b1, b2⟩ | ⟨b1, b2⟩
  · omega
  · omega
  · omega
  · exact ab_ls_un a2 b2
theorem det_rank {σ : aW} {x o1 v1 o2 v2 : Int} {s1 s2 : aW} (a : rl (ok_rank σ x) (rf_rank σ x) σ o1 v1 s1) (b : rl (ok_rank σ x) (rf_rank σ x) σ o2 v2 s2) : o1 = o2 ∧ s1 = s2 ∧ (o1 = 0 → v1 = v2) :=
  rl_det (fun v1 s1 v2 s2 a b => ⟨a.2.1.trans b.2.1.symm, a.2.2.trans b.2.2.symm⟩) (fun o1 o2 a b => a.2.trans b.2.symm) (fun v s o a b => b.1 a.1) (fun o a => by have := a.2; omega) a b
theorem det_node {σ : aW} {x y z o1 v1 o2 v2 : Int} {s1 s2 : aW} (a : rl (ok_node σ x y z) (rf_node σ x y z) σ o1 v1 s1) (b : rl (ok_node σ x y z) (rf_node σ x y z) σ o2 v2 s2) : o1 = o2 ∧ s1 = s2 ∧ (o1 = 0 → v1 = v2) :=
  rl_det (fun v1 s1 v2 s2 a b => ⟨a.2.1.trans b.2.1.symm, a.2.2.trans b.2.2.symm⟩) (fun o1 o2 a b => a.2.trans b.2.symm) (fun v s o a b => b.1 a.1) (fun o a => by have := a.2; omega) a b
theorem det_path {σ : aW} {x y o1 v1 o2 v2 : Int} {s1 s2 : aW} (a : rl (ok_path σ x y) (rf_path σ x y) σ o1 v1 s1) (b : rl (ok_path σ x y) (rf_path σ x y) σ o2 v2 s2) : o1 = o2 ∧ s1 = s2 ∧ (o1 = 0 → v1 = v2) :=
  rl_det (fun v1 s1 v2 s2 a b => ⟨a.2.1.trans b.2.1.symm, a.2.2.trans b.2.2.symm⟩) (fun o1 o2 a b => a.2.trans b.2.symm) (fun v s o a b => b.1 a.1) (fun o a => by have := a.2; omega) a b
theorem det_tree {σ : aW} {x y o1 v1 o2 v2 : Int} {s1 s2 : aW} (a : rl (ok_tree σ x y) (rf_tree σ x y) σ o1 v1 s1) (b : rl (ok_tree σ x y) (rf_tree σ x y) σ o2 v2 s2) : o1 = o2 ∧ s1 = s2 ∧ (o1 = 0 → v1 = v2) :=
  rl_det (fun v1 s1 v2 s2 a b => ⟨a.2.1.trans b.2.1.symm, a.2.2.trans b.2.2.symm⟩) (fun o1 o2 a b => a.2.trans b.2.symm) (fun v s o a b => b.1 a.1) (fun o a => by have := a.2; omega) a b
theorem det_rebuild {σ : aW} {x o1 v1 o2 v2 : Int} {s1 s2 : aW} (a : rl (ok_rebuild σ x) (rf_rebuild σ x) σ o1 v1 s1) (b : rl (ok_rebuild σ x) (rf_rebuild σ x) σ o2 v2 s2) : o1 = o2 ∧ s1 = s2 ∧ (o1 = 0 → v1 = v2) :=
  rl_det (fun v1 s1 v2 s2 a b => ⟨a.2.1.trans b.2.1.symm, a.2.2.trans b.2.2.symm⟩) (fun o1 o2 a b => a.2.trans b.2.symm) (fun v s o a b => b.1 a.1) (fun o a => by have := a.2; omega) a b
theorem det_queued {σ : aW} {x o1 v1 o2 v2 : Int} {s1 s2 : aW} (a : rl (ok_queued σ x) (rf_queued σ x) σ o1 v1 s1) (b : rl (ok_queued σ x) (rf_queued σ x) σ o2 v2 s2) : o1 = o2 ∧ s1 = s2 ∧ (o1 = 0 → v1 = v2) :=
  rl_det (fun v1 s1 v2 s2 a b => ⟨a.2.1.trans b.2.1.symm, a.2.2.trans b.2.2.symm⟩) (fun o1 o2 a b => a.2.trans b.2.symm) (fun v s o a b => by have h1 := a.1; have h2 := b.1; omega) (fun o a => by have := a.2; omega) a b
theorem det_count {σ : aW} {x o1 v1 o2 v2 : Int} {s1 s2 : aW} (a : rl (ok_count σ x) (rf_count σ x) σ o1 v1 s1) (b : rl (ok_count σ x) (rf_count σ x) σ o2 v2 s2) : o1 = o2 ∧ s1 = s2 ∧ (o1 = 0 → v1 = v2) :=
  rl_det (fun v1 s1 v2 s2 a b => ⟨a.2.1.trans b.2.1.symm, a.2.2.trans b.2.2.symm⟩) (fun o1 o2 a b => a.2.trans b.2.symm) (fun v s o a b => b.1 a.1) (fun o a => by have := a.2; omega) a b
theorem det_setting {σ : aW} {x o1 v1 o2 v2 : Int} {s1 s2 : aW} (a : rl (ok_setting σ x) (rf_setting σ x) σ o1 v1 s1) (b : rl (ok_setting σ x) (rf_setting σ x) σ o2 v2 s2) : o1 = o2 ∧ s1 = s2 ∧ (o1 = 0 → v1 = v2) :=
  rl_det (fun v1 s1 v2 s2 a b => ⟨a.2.1.trans b.2.1.symm, a.2.2.trans b.2.2.symm⟩) (fun o1 o2 a b => a.2.trans b.2.symm) (fun v s o a b => b.1 a.1) (fun o a => by have := a.2; omega) a b
theorem det_untilExchange {σ : aW} {x o1 v1 o2 v2 : Int} {s1 s2 : aW} (a : rl (ok_untilExchange σ x) (rf_untilExchange σ x) σ o1 v1 s1) (b : rl (ok_untilExchange σ x) (rf_untilExchange σ x) σ o2 v2 s2) : o1 = o2 ∧ s1 = s2 ∧ (o1 = 0 → v1 = v2) :=
  rl_det (fun v1 s1 v2 s2 a b => ⟨a.2.1.trans b.2.1.symm, a.2.2.trans b.2.2.symm⟩) (fun o1 o2 a b => a.2.trans b.2.symm) (fun v s o a b => b.1 a.1) (fun o a => by have := a.2; omega) a b
theorem det_longest {σ : aW} {x o1 v1 o2 v2 : Int} {s1 s2 : aW} (a : rl (ok_longest σ x) (rf_longest σ x) σ o1 v1 s1) (b : rl (ok_longest σ x) (rf_longest σ x) σ o2 v2 s2) : o1 = o2 ∧ s1 = s2 ∧ (o1 = 0 → v1 = v2) :=
  rl_det (fun v1 s1 v2 s2 a b => ⟨a.2.1.trans b.2.1.symm, a.2.2.trans b.2.2.symm⟩) (fun o1 o2 a b => a.2.trans b.2.symm) (fun v s o a b => b.1 a.1) (fun o a => by have := a.2; omega) a b
/-! the invariant goes on -/
theorem iv_app {b : Int} {σ : aW} (h : iv b σ) {A : aS} (hA : ab_I b A) : iv b (A, ab_save σ.2.1 σ.1, σ.2.2) := ⟨hA, ab_save_I h.2.1 h.1, h.2.2.1, h.2.2.2⟩
theorem iv_add {b : Int} {σ σ' : aW} (h : iv b σ) {x v : Int} (a : ok_add σ x v σ') : iv (b + 248) σ' := by
  obtain ⟨h1, h2, h3, h4, rfl⟩ := a
  have := ab_I_act (a := x) h.1 (Or.inr (Or.inl ⟨h1.1, h1.2, h2⟩))
  exact iv_app (h.mono (by omega)) (this.1.mono (by omega))
theorem iv_remove {b : Int} {σ σ' : aW} (h : iv b σ) {x v : Int} (a : ok_remove σ x v σ') : iv (b + 248) σ' := by
  obtain ⟨h1, h2, h3, rfl⟩ := a
  have := ab_I_act (a := x + 500) h.1 (Or.inr (Or.inr ⟨by omega, by omega⟩))
  exact iv_app (h.mono (by omega)) (this.1.mono (by omega))
theorem iv_idle {b : Int} {σ σ' : aW} (h : iv b σ) {v : Int} (a : ok_idle σ v σ') : iv (b + 248) σ' := by
  obtain ⟨h1, rfl⟩ := a
  have := ab_I_act (a := -1) h.1 (Or.inl rfl)
  exact iv_app (h.mono (by omega)) (this.1.mono (by omega))
theorem iv_begin {b : Int} {σ σ' : aW} (h : iv b σ) {v : Int} (a : ok_begin σ v σ') : iv (b + 248) σ' := by
  obtain ⟨h1, h2, rfl⟩ := a
  exact iv_app (h.mono (by omega)) ((ab_I_beg h.1).mono (by omega))
theorem iv_abandon {b : Int} {σ σ' : aW} (h : iv b σ) {v : Int} (a : ok_abandon σ v σ') : iv (b + 248) σ' := by
  obtain ⟨h1, h2, rfl⟩ := a
  exact iv_app (h.mono (by omega)) ((ab_I_abn h.1).mono (by omega))
theorem iv_set {b : Int} {σ σ' : aW} (h : iv b σ) {x y v : Int} (a : ok_set σ x y v σ') : iv (b + 248) σ' := by
  obtain ⟨h1, h2, h3, rfl⟩ := a
  exact iv_app (h.mono (by omega)) ((ab_I_set h.1 h1 h2).mono (by omega))
theorem iv_append {b : Int} {σ σ' : aW} (h : iv b σ) {x v : Int} (a : ok_append σ x v σ') : iv (b + 248) σ' := by
  obtain ⟨h1, h2, h3, rfl⟩ := a
  obtain ⟨g1, g2, g3, g4, g5⟩ := h.mono (b2 := b + 248) (by omega)
  refine ⟨g1, g2, g3, ?_, fun c hc => ?_⟩
  · show (σ.2.2.2 ++ [x]).length ≤ 60
    rw [List.length_append, List.length_singleton]
    omega
  · rcases List.mem_append.mp hc with hc | hc
    · exact g5 c hc
    · rw [List.mem_singleton.mp hc]
      exact h1
theorem iv_clearBuffer {b : Int} {σ σ' : aW} (h : iv b σ) {v : Int} (a : ok_clearBuffer σ v σ') : iv (b + 248) σ' := by
  obtain ⟨h1, rfl⟩ := a
  obtain ⟨g1, g2, g3, g4, g5⟩ := h.mono (b2 := b + 248) (by omega)
  exact ⟨g1, g2, g3, Nat.zero_le _, fun c hc => absurd hc List.not_mem_nil⟩
theorem iv_execute {b : Int} {σ σ' : aW} (h : iv b σ) {v : Int} (a : ok_execute σ v σ') : iv (b + 248) σ' := by
  obtain ⟨acts, h1, h2, rfl⟩ := a
  have hp := ab_ptx_prop (le := (σ.2.2.2.length : Int)) (ch := fun j => σ.2.2.2.getD j 0) (X := σ.2.2.2) ⟨rfl, h.2.2.2.1, fun j y hj => by simp [List.getD, hj], h.2.2.2.2⟩ h1
  have := ab_I_exe acts σ.1 b h.1 hp.1
  obtain ⟨g1, g2, g3, g4, g5⟩ := h.mono (b2 := b + 248) (by omega)
  exact ⟨this.mono (by omega), ab_save_I g2 g1, g3, Nat.zero_le _, fun c hc => absurd hc List.not_mem_nil⟩
theorem iv_undo {b : Int} {σ σ' : aW} (h : iv b σ) {v : Int} (a : ok_undo σ v σ') : iv (b + 248) σ' := by
  obtain ⟨B, h1, h2, rfl⟩ := a
  obtain ⟨g1, g2, g3, g4⟩ := h.mono (b2 := b + 248) (by omega)
  exact ⟨g2 B (List.mem_of_getLast? h1), fun C hC => g2 C ((List.dropLast_sublist _).subset hC), g3, g4⟩
theorem iv_keep {b : Int} {σ σ' : aW} (h : iv b σ) {x v : Int} (a : ok_keep σ x v σ') : iv (b + 248) σ' := by
  obtain ⟨h1, h2, rfl⟩ := a
  obtain ⟨g1, g2, g3, g4⟩ := h.mono (b2 := b + 248) (by omega)
  refine ⟨g1, g2, fun i B hi hB => ?_, g4⟩
  have hB : ab_snap σ.2.2.1 x σ.1 i = some B := hB
  unfold ab_snap at hB
  split at hB
  · cases hB
    exact g1
  · exact g3 i B hi hB
theorem iv_goBack {b : Int} {σ σ' : aW} (h : iv b σ) {x v : Int} (a : ok_goBack σ x v σ') : iv (b + 248) σ' := by
  obtain ⟨h1, B, h2, h3, rfl⟩ := a
  exact iv_app (h.mono (by omega)) ((h.2.2.1 _ B (by omega) h2).mono (by omega))
theorem iv_rl {ok : Int → aW → Prop} {ref : Int → Prop} {b : Int} {σ σ' : aW} {o v : Int} (h : iv b σ) (hok : ∀ v s, ok v s → iv (b + 248) s) (a : rl ok ref σ o v σ') : iv (b + 248) σ' := by
  rcases a with ⟨-, a⟩ | ⟨-, rfl⟩
  · exact hok _ _ a
  · exact h.mono (by omega)
