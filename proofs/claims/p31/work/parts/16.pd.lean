/-! the tree in the class: changes -/
theorem ab_cpy (f : Nat → Int) (sp dp n j : Nat) : cpI f f sp dp n j = if dp ≤ j ∧ j < dp + n then f (sp + (j - dp)) else f j := rfl
/-- a row put into a list of rows -/
theorem ab_insrow {f : Nat → Int} {P : List Int} {p : Nat} {v : Int} (h : ab_ar f P) (hp : p ≤ P.length) : ab_ar (uI (cpI f f p (p + 1) (P.length - p)) p v) (P.take p ++ v :: P.drop p) := by
  intro i x hx
  have hl : (P.take p).length = p := by rw [List.length_take]; omega
  unfold uI
  by_cases h1 : i = p
  · subst h1
    rw [if_pos rfl]
    rw [List.getElem?_append_right (by omega), hl, Nat.sub_self] at hx
    simpa using hx
  · rw [if_neg h1, ab_cpy]
    by_cases h2 : i < p
    · rw [if_neg (by omega)]
      rw [List.getElem?_append_left (by omega), List.getElem?_take_of_lt h2] at hx
      exact h i x hx
    · obtain ⟨m, rfl⟩ : ∃ m, i = p + 1 + m := ⟨i - (p + 1), by omega⟩
      rw [List.getElem?_append_right (by omega), hl, show p + 1 + m - p = m + 1 by omega, List.getElem?_cons_succ, List.getElem?_drop] at hx
      have hlt := (List.getElem?_eq_some_iff.mp hx).1
      rw [if_pos (by omega), show p + (p + 1 + m - (p + 1)) = p + m by omega]
      exact h _ x hx
def uM (mk : Int → Int) (key v : Int) : Int → Int := fun y => if y = key then v else mk y
def ab_put (L : List Int) (key : Int) : List Int := if key ∈ L then L else L ++ [key]
theorem ab_g_uM {L : List Int} {mk : Int → Int} (h : ab_g L mk) {key v : Int} (hv : v = 0 ∨ v = 1) : ab_g L (uM mk key v) := by
  refine ⟨h.1, h.2.1, h.2.2.1, fun x => ?_⟩
  unfold uM
  split
  · exact hv
  · exact h.2.2.2 x
theorem ab_g_app {L : List Int} {mk : Int → Int} (h : ab_g L mk) {key : Int} (hk : 0 ≤ key ∧ key < 500) (hm : key ∉ L) (hl : L.length < 120) : ab_g (L ++ [key]) mk := by
  refine ⟨?_, ?_, by simp; omega, h.2.2.2⟩
  · rw [List.nodup_append]
    refine ⟨h.1, by simp, ?_⟩
    intro a ha b hb
    have : b = key := by simpa using hb
    subst this
    intro e
    exact hm (e ▸ ha)
  · intro y hy
    rcases List.mem_append.mp hy with hy | hy
    · exact h.2.1 y hy
    · have : y = key := by simpa using hy
      omega
theorem ab_g_put {L : List Int} {mk : Int → Int} (h : ab_g L mk) {key : Int} (hk : 0 ≤ key ∧ key < 500) (hl : key ∈ L ∨ L.length < 120) : ab_g (ab_put L key) (uM mk key 0) := by
  refine ab_g_uM ?_ (Or.inl rfl)
  unfold ab_put
  split
  · exact h
  · rename_i hm
    exact ab_g_app h hk hm (hl.resolve_left hm)
section PX3
variable {nT : Int} {kT dT mT : Nat → Int} {L : List Int} {mk : Int → Int}
theorem ab_k_ar (hc : ab_cT nT kT dT mT L mk) : ab_ar kT ((tk_pr 1 L).map Prod.fst) ∧ ab_ar dT ((tk_pr 1 L).map Prod.snd) ∧ ab_ar mT ((tk_pr 1 L).map (fun r => mk r.1)) := by
  refine ⟨fun i x hx => ?_, fun i x hx => ?_, fun i x hx => ?_⟩ <;>
  · rw [List.getElem?_map] at hx
    cases hr : (tk_pr 1 L)[i]? with
    | none => rw [hr] at hx; cases hx
    | some r =>
      rw [hr] at hx
      obtain ⟨a, b⟩ := r
      have h := hc.2 i a b hr
      have hx' := Option.some.inj hx
      simp only at hx'
      first
        | exact h.1.trans hx'
        | exact h.2.1.trans hx'
        | exact h.2.2.trans hx'
theorem ab_cT_of {n : Int} {k d m : Nat → Int} {L : List Int} {mk : Int → Int} {P : List (Int × Int)} (hP : tk_pr 1 L = P) (hn : n = (L.length : Int)) (h1 : ab_ar k (P.map Prod.fst)) (h2 : ab_ar d (P.map Prod.snd)) (h3 : ab_ar m (P.map (fun r => mk r.1))) : ab_cT n k d m L mk := by
  refine ⟨hn, fun i x dx h => ⟨h1 i x ?_, h2 i dx ?_, h3 i (mk x) ?_⟩⟩ <;>
  · rw [List.getElem?_map, ← hP, h]
    rfl
theorem ab_marks (hc : ab_cT nT kT dT mT L mk) (hg : ab_g L mk) : ∀ i, i < (tk_pr 1 L).length → mT i = 0 ∨ mT i = 1 := by
  intro i hi
  obtain ⟨r, hr⟩ : ∃ r, (tk_pr 1 L)[i]? = some r := ⟨_, List.getElem?_eq_getElem hi⟩
  obtain ⟨x, dx⟩ := r
  obtain ⟨e1, e2, e3, e4, e5, e6, e7, e8, e9⟩ := ab_row hc hg hr
  rw [e3]
  exact e7
/-- setting the mark of a node -/
theorem ab_setmark (hc : ab_cT nT kT dT mT L mk) (hg : ab_g L mk) {j : Nat} {key dx v : Int} (hr : (tk_pr 1 L)[j]? = some (key, dx)) : ab_cT nT kT dT (uI mT j v) L (uM mk key v) := by
  refine ⟨hc.1, fun i x dx1 h => ⟨(hc.2 i x dx1 h).1, (hc.2 i x dx1 h).2.1, ?_⟩⟩
  unfold uI uM
  have hnd : ((tk_pr 1 L).map Prod.fst).Nodup := (tk_pr_perm L 1 hg.1).nodup_iff.mpr hg.1
  have hj : ((tk_pr 1 L).map Prod.fst)[j]? = some key := by rw [List.getElem?_map, hr]; rfl
  have hi : ((tk_pr 1 L).map Prod.fst)[i]? = some x := by rw [List.getElem?_map, h]; rfl
  by_cases hij : i = j
  · subst hij
    rw [hi] at hj
    rw [if_pos rfl, if_pos (Option.some.inj hj)]
  · rw [if_neg hij, if_neg (fun e => hij ?_)]
    · exact (hc.2 i x dx1 h).2.2
    · have hlt := (List.getElem?_eq_some_iff.mp hi).1
      exact (List.getElem?_inj hlt hnd).mp (by rw [hi, hj, e])
/-- a new node at its place -/
theorem ab_newrow (hc : ab_cT nT kT dT mT L mk) (hg : ab_g L mk) {key v d1 : Int} {p : Nat} (hp : p ≤ (tk_pr 1 L).length) (hm : key ∉ L) (e : tk_pr 1 (L ++ [key]) = (tk_pr 1 L).take p ++ (key, d1) :: (tk_pr 1 L).drop p) :
    ab_cT (nT + 1) (uI (cpI kT kT p (p + 1) ((tk_pr 1 L).length - p)) p key) (uI (cpI dT dT p (p + 1) ((tk_pr 1 L).length - p)) p d1) (uI (cpI mT mT p (p + 1) ((tk_pr 1 L).length - p)) p v) (L ++ [key]) (uM mk key v) := by
  obtain ⟨h1, h2, h3⟩ := ab_k_ar hc
  have hx : ∀ r ∈ tk_pr 1 L, mk r.1 = uM mk key v r.1 := fun r hr => by
    have : r.1 ≠ key := fun e => hm (e ▸ tk_pr_mem _ _ _ hr)
    unfold uM
    rw [if_neg this]
  refine ab_cT_of e (by rw [hc.1]; simp) ?_ ?_ ?_
  · have := ab_insrow (v := key) h1 (p := p) (by rw [List.length_map]; exact hp)
    rw [List.length_map] at this
    simpa only [List.map_append, List.map_cons, List.map_take, List.map_drop] using this
  · have := ab_insrow (v := d1) h2 (p := p) (by rw [List.length_map]; exact hp)
    rw [List.length_map] at this
    simpa only [List.map_append, List.map_cons, List.map_take, List.map_drop] using this
  · have := ab_insrow (v := v) h3 (p := p) (by rw [List.length_map]; exact hp)
    rw [List.length_map] at this
    have ek : uM mk key v key = v := by unfold uM; rw [if_pos rfl]
    have em : (tk_pr 1 L).map (fun r => uM mk key v r.1) = (tk_pr 1 L).map (fun r => mk r.1) := List.map_congr_left (fun r hr => (hx r hr).symm)
    simp only [List.map_append, List.map_cons, List.map_take, List.map_drop, ek, em]
    exact this
theorem sp_X3_grow_53 (hc : ab_cT nT kT dT mT L mk) (hg : ab_g L mk) {key d1 : Int} {p : Nat} (hp : p ≤ (tk_pr 1 L).length) (hl : L.length < 120) (hm : key ∉ L) (e : tk_pr 1 (L ++ [key]) = (tk_pr 1 L).take p ++ (key, d1) :: (tk_pr 1 L).drop p)
    {Q : Int → Int → (Nat → Int) → (Nat → Int) → (Nat → Int) → Prop} (hQ : ∀ k d m, ab_cT (nT + 1) k d m (L ++ [key]) (uM mk key 0) → Q 1 (nT + 1) k d m) : wp_X3_grow_53 nT kT dT mT key (p : Int) d1 Q := by
  obtain ⟨hn, hn2, hn3⟩ := ab_len hc hg
  unfold wp_X3_grow_53
  have e1 : (nT - (p : Int)).toNat = (tk_pr 1 L).length - p := by omega
  have e2 : ((p : Int) + 1).toNat = p + 1 := by omega
  simp only [Int.toNat_natCast, e1, e2]
  refine ⟨by omega, by omega, by omega, by omega, by omega, by omega, fun i hi => ab_marks hc hg _ (by omega), by omega, by omega, by omega, hQ _ _ _ (ab_newrow hc hg hp hm e)⟩
theorem sp_X3_grow (hc : ab_cT nT kT dT mT L mk) (hg : ab_g L mk) {key : Int} (hk : 0 ≤ key ∧ key < 500) (hm : key ∉ L) (hl : L.length < 120) {r : Int}
    (hr : (ab_s key L = [] ∧ r = -1) ∨ ∃ (j : Nat) (x dx : Int), r = (j : Int) ∧ (tk_pr 1 L)[j]? = some (x, dx) ∧ (ab_s key L).getLast? = some x)
    {Q : Int → Int → (Nat → Int) → (Nat → Int) → (Nat → Int) → Prop} (hQ : ∀ k d m, ab_cT (nT + 1) k d m (L ++ [key]) (uM mk key 0) → Q 1 (nT + 1) k d m) : wp_X3_grow nT kT dT mT r key Q := by
  obtain ⟨hn, hn2, hn3⟩ := ab_len hc hg
  unfold wp_X3_grow
  refine ⟨by omega, fun _ => ?_, fun h => absurd (by omega) h⟩
  rcases hr with ⟨e0, rfl⟩ | ⟨j, x, dx, rfl, hr, hlast⟩
  · have eL : L = [] := tk_sk_nil hg.2.1 e0
    refine ⟨by decide, fun _ => ?_, fun h => absurd rfl h⟩
    have := sp_X3_grow_53 hc hg (key := key) (d1 := 1) (p := 0) (Nat.zero_le _) hl hm (by rw [eL]; rfl) hQ
    exact this
  · obtain ⟨e1, e2, e3, e4, e5, e6, e7, e8, e9⟩ := ab_row hc hg hr
    have hne : key ≠ x := fun e => hm (e ▸ e4)
    have hins := tk_ins L 1 (-1) 500 key hg.2.1 hg.1 hm (by omega) (by omega) j x dx hr hlast
    refine ⟨by omega, fun h => absurd h (by omega), fun _ => ⟨by omega, by omega, by simp only [Int.toNat_natCast, e1]; omega, fun h => ?_, fun h => ?_⟩⟩
    · simp only [Int.toNat_natCast, e1] at h
      unfold tk_place at hins
      rw [if_neg (by omega)] at hins
      have hle := tk_tw_le dx ((tk_pr 1 L).drop (j + 1))
      rw [List.length_drop] at hle
      refine sp_X3_subtreeEnd hc hg hr ?_
      unfold wp_X3_grow_42
      simp only [Int.toNat_natCast, e2]
      exact ⟨by omega, sp_X3_grow_53 hc hg (by omega) hl hm hins hQ⟩
    · simp only [Int.toNat_natCast, e1] at h
      unfold tk_place at hins
      rw [if_pos (by omega)] at hins
      unfold wp_X3_grow_42
      simp only [Int.toNat_natCast, e2]
      have := sp_X3_grow_53 hc hg (p := j + 1) (by omega) hl hm hins hQ
      push_cast at this
      exact ⟨by omega, this⟩
/-- an act's part 1: r tells whether the key's presence changed -/
theorem sp_X3_changeBy_add (hc : ab_cT nT kT dT mT L mk) (hg : ab_g L mk) {key : Int} (hk : 0 ≤ key ∧ key < 500) (hl : key ∈ L ∨ L.length < 120) {Q : Int → Int → (Nat → Int) → (Nat → Int) → (Nat → Int) → Prop}
    (hQ : ∀ k d m, ab_cT ((ab_put L key).length : Int) k d m (ab_put L key) (uM mk key 0) → Q (if key ∈ L ∧ mk key = 0 then 0 else 1) ((ab_put L key).length : Int) k d m) : wp_X3_changeBy nT kT dT mT key Q := by
  obtain ⟨hn, hn2, hn3⟩ := ab_len hc hg
  have em : key % 500 = key := by omega
  unfold wp_X3_changeBy
  refine ⟨by omega, fun _ => ?_, fun h => absurd (by omega) h⟩
  unfold wp_X3_changeBy_12
  rw [em]
  have grow : ∀ r : Int, key ∉ L → ((ab_s key L = [] ∧ r = -1) ∨ ∃ (j : Nat) (x dx : Int), r = (j : Int) ∧ (tk_pr 1 L)[j]? = some (x, dx) ∧ (ab_s key L).getLast? = some x) → wp_X3_changeBy_43 nT kT dT mT 0 key r Q := by
    intro r hm hr
    unfold wp_X3_changeBy_43
    refine ⟨by decide, fun h => absurd rfl h, fun _ => sp_X3_grow hc hg hk hm (hl.resolve_left hm) hr (fun k d m h => ⟨by decide, fun q => absurd q (by decide), fun _ => ?_⟩)⟩
    have ep : ab_put L key = L ++ [key] := by unfold ab_put; rw [if_neg hm]
    rw [ep] at hQ
    have e1 : nT + 1 = ((L ++ [key]).length : Int) := by rw [hc.1]; simp
    rw [e1] at h ⊢
    have := hQ k d m h
    rw [if_neg (fun q => hm q.1)] at this
    exact this
  refine ⟨by omega, sp_X3_lastVisited hc hg (by omega) (fun e0 => ⟨by decide, fun _ => grow _ (fun hm => ?_) (Or.inl ⟨e0, rfl⟩), fun h => absurd rfl h⟩) (fun j x dx hr hlast => ?_)⟩
  · have := (ab_found hg hk).mp hm
    rw [e0] at this
    cases this
  · obtain ⟨e1, e2, e3, e4, e5, e6, e7, e8, e9⟩ := ab_row hc hg hr
    have fin : ∀ (h : x = key) (b : Int), b = (if mk key = 0 then 0 else 1) → Q b nT kT dT (uI mT j 0) := by
      intro h b hb
      subst h
      have ep : ab_put L x = L := by unfold ab_put; rw [if_pos e4]
      rw [ep] at hQ
      have := hQ kT dT (uI mT j 0) (by rw [← hc.1]; exact ab_setmark hc hg hr)
      rw [← hc.1] at this
      rw [hb]
      simpa only [e4, true_and] using this
    simp only [Int.toNat_natCast, e1, e3]
    refine ⟨by omega, fun h => absurd h (by omega), fun _ => ⟨by omega, by omega, by omega, fun h => ⟨by omega, by omega, by decide, fun h2 => ⟨by omega, by decide, ?_⟩, fun h2 => ⟨by omega, by decide, ?_⟩⟩, fun h => ?_⟩⟩
    · refine fin h 0 ?_
      rw [if_pos (by rw [← h]; exact h2)]
    · refine fin h 1 ?_
      rw [if_neg (by rw [← h]; exact h2)]
    · refine grow _ (fun hm => ?_) (Or.inr ⟨j, x, dx, rfl, hr, hlast⟩)
      have := (ab_found hg hk).mp hm
      rw [hlast] at this
      exact h (Option.some.inj this)
theorem sp_X3_changeBy_rem (hc : ab_cT nT kT dT mT L mk) (hg : ab_g L mk) {key : Int} (hk : 0 ≤ key ∧ key < 500) {Q : Int → Int → (Nat → Int) → (Nat → Int) → (Nat → Int) → Prop}
    (hQ : ∀ k d m, ab_cT (L.length : Int) k d m L (if key ∈ L then uM mk key 1 else mk) → Q (if key ∈ L ∧ mk key = 0 then 1 else 0) (L.length : Int) k d m) : wp_X3_changeBy nT kT dT mT (key + 500) Q := by
  obtain ⟨hn, hn2, hn3⟩ := ab_len hc hg
  have em : (key + 500) % 500 = key := by omega
  rw [← hc.1] at hQ
  unfold wp_X3_changeBy
  refine ⟨by omega, fun h => absurd h (by omega), fun _ => ?_⟩
  unfold wp_X3_changeBy_12
  rw [em]
  have none1 : ∀ r : Int, key ∉ L → wp_X3_changeBy_43 nT kT dT mT 1 key r Q := by
    intro r hm
    unfold wp_X3_changeBy_43
    refine ⟨by decide, fun _ => ?_, fun h => absurd (by decide) h⟩
    have := hQ kT dT mT (by rw [if_neg hm]; exact hc)
    rw [if_neg (fun q => hm q.1)] at this
    exact this
  refine ⟨by omega, sp_X3_lastVisited hc hg (by omega) (fun e0 => ⟨by decide, fun _ => none1 _ (fun hm => ?_), fun h => absurd rfl h⟩) (fun j x dx hr hlast => ?_)⟩
  · have := (ab_found hg hk).mp hm
    rw [e0] at this
    cases this
  · obtain ⟨e1, e2, e3, e4, e5, e6, e7, e8, e9⟩ := ab_row hc hg hr
    have fin : ∀ (h : x = key) (b : Int), b = (if mk key = 0 then 1 else 0) → Q b nT kT dT (uI mT j 1) := by
      intro h b hb
      subst h
      have := hQ kT dT (uI mT j 1) (by rw [if_pos e4]; exact ab_setmark hc hg hr)
      rw [hb]
      simpa only [e4, true_and] using this
    simp only [Int.toNat_natCast, e1, e3]
    refine ⟨by omega, fun h => absurd h (by omega), fun _ => ⟨by omega, by omega, by omega, fun h => ⟨by omega, by omega, by decide, fun h2 => ⟨by omega, by decide, ?_⟩, fun h2 => ⟨by omega, by decide, ?_⟩⟩, fun h => ?_⟩⟩
    · refine fin h 0 ?_
      rw [if_neg (by rw [← h]; omega)]
    · refine fin h 1 ?_
      rw [if_pos (by rw [← h]; omega)]
    · refine none1 _ (fun hm => ?_)
      have := (ab_found hg hk).mp hm
      rw [hlast] at this
      exact h (Option.some.inj this)
end PX3
