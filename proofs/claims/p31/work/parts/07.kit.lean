/-! ints as Int, booleans 0/1; one judgment V over a world of cells and named locals -/
def iI (a : Int) : Int32 := Int32.ofInt a
def iA (f : Nat → Int) : Nat → Int32 := fun k => iI (f k)
def uI (f : Nat → Int) (k : Nat) (v : Int) : Nat → Int := fun j => if j = k then v else f j
def cpI (f g : Nat → Int) (sp dp n : Nat) : Nat → Int := fun k => if dp ≤ k ∧ k < dp + n then f (sp + (k - dp)) else g k
abbrev inR (a : Int) : Prop := -2147483648 ≤ a ∧ a ≤ 2147483647
theorem iI_T {a : Int} (h : inR a) : (iI a).toInt = a := Int32.toInt_ofInt_of_le (by omega) (by omega)
theorem iI_lt {a b : Int} (ha : inR a) (hb : inR b) : iI a < iI b ↔ a < b := by rw [Int32.lt_iff_toInt_lt, iI_T ha, iI_T hb]
theorem iI_le {a b : Int} (ha : inR a) (hb : inR b) : iI a ≤ iI b ↔ a ≤ b := by rw [Int32.le_iff_toInt_le, iI_T ha, iI_T hb]
theorem iI_eq {a b : Int} (ha : inR a) (hb : inR b) : iI a = iI b ↔ a = b := by rw [← Int32.toInt_inj, iI_T ha, iI_T hb]
theorem iI_cl {a : Int} (h : inR a) : (iI a).toNatClampNeg = a.toNat := by show (iI a).toInt.toNat = _; rw [iI_T h]
theorem iI_in {a : Int} {n : Nat} (hn : n < 2147483648) (h0 : 0 ≤ a) (h1 : a < n) : vp_in (iI a) n := vp_in_iff.mpr (by rw [iI_T (by omega)]; exact ⟨h0, h1⟩)
theorem iI_add (a b : Int) : iI a + iI b = iI (a + b) := (Int32.ofInt_add a b).symm
theorem iI_sub (a b : Int) : iI a - iI b = iI (a - b) := (Int32.ofInt_sub a b).symm
theorem iI_mul (a b : Int) : iI a * iI b = iI (a * b) := (Int32.ofInt_mul a b).symm
theorem iI_0 : iI 0 = 0 := rfl
theorem iI_nat (n : Nat) : iI (n : Int) = nI n := by
  unfold iI nI
  exact Int32.ofInt_eq_ofNat
theorem iI_nat' {a : Int} (h : 0 ≤ a) : iI a = nI a.toNat := by
  have e : ((a.toNat : Nat) : Int) = a := Int.toNat_of_nonneg h
  rw [← iI_nat, e]
theorem iI_div {a b : Int} (ha : 0 ≤ a ∧ a ≤ 2147483647) (hb : 0 < b ∧ b ≤ 2147483647) : iI a / iI b = iI (a / b) := by
  have h2 : 0 ≤ a / b := Int.ediv_nonneg ha.1 (Int.le_of_lt hb.1)
  rw [iI_nat' ha.1, iI_nat' (Int.le_of_lt hb.1), iI_nat' h2, pk_div (by omega) (by omega) (by omega)]
  congr 1
  obtain ⟨x, rfl⟩ := Int.eq_ofNat_of_zero_le ha.1
  obtain ⟨y, rfl⟩ := Int.eq_ofNat_of_zero_le (Int.le_of_lt hb.1)
  rfl
theorem iI_rem {a b : Int} (ha : 0 ≤ a ∧ a ≤ 2147483647) (hb : 0 < b ∧ b ≤ 2147483647) : iI a - iI a / iI b * iI b = iI (a % b) := by
  rw [iI_div ha hb, iI_mul, iI_sub]
  congr 1
  rw [Int.emod_def, Int.mul_comm b]
theorem iA_upd (f : Nat → Int) (k : Nat) (v : Int) : upd (iA f) k (iI v) = iA (uI f k v) := by
  funext j
  unfold upd iA uI
  by_cases h : j = k
  · rw [if_pos h, if_pos h]
  · rw [if_neg h, if_neg h]
theorem iA_cpy (f g : Nat → Int) (sp dp n : Nat) : va_cpy (iA f) (iA g) sp dp n = iA (cpI f g sp dp n) := by
  funext j
  unfold va_cpy iA cpI
  by_cases h : dp ≤ j ∧ j < dp + n
  · rw [if_pos h, if_pos h]
  · rw [if_neg h, if_neg h]
theorem iI_b {a : Int} (h : a = 0 ∨ a = 1) : narrow .boolean (.int (iI a)) = .int (iI a) ∧ fits .boolean (.int (iI a)) = true ∧ vp_nar .boolean (iI a) = iI a := by
  rcases h with rfl | rfl <;> refine ⟨rfl, rfl, rfl⟩
theorem iI_c {a : Int} (h : 0 ≤ a ∧ a ≤ 65535) : ((iI a).toUInt32 % 65536).toInt32 = iI a ∧ vp_nar .char (iI a) = iI a := by
  have e : ((iI a).toUInt32 % 65536).toInt32 = iI a := by
    rw [iI_nat' h.1, pk_char, pk_tn (by omega)]
    congr 1
    omega
  refine ⟨e, ?_⟩
  rw [vp_nar_char]
  rw [iI_nat' h.1]
  have := (pk_charN (q := a.toNat) (by omega)).1
  have h2 : narrow .char (.int (nI a.toNat)) = .int (nI a.toNat) := this
  have h3 := vp_nar_char (nI a.toNat)
  unfold vp_nar at h3
  rw [h2] at h3
  exact h3.symm
/-- the classes of the arrays: ints, booleans, chars, states -/
abbrev tyL (t : Nat → ClassId) : List (ClassId × FieldType) := [(t 0, .int), (t 1, .boolean), (t 2, .char), (t 3, .object RX2)]
abbrev oB (a ci : Nat) (fs : List Value) : Nat × va_E := (a, .inr (ci, fs))
abbrev aI (t : Nat → ClassId) (a n : Nat) (f : Nat → Int) : Nat × va_E := (a, .inl (t 0, n, .inl (iA f)))
abbrev aZ (t : Nat → ClassId) (a n : Nat) (f : Nat → Int) : Nat × va_E := (a, .inl (t 1, n, .inl (iA f)))
abbrev aC (t : Nat → ClassId) (a n : Nat) (f : Nat → Int) : Nat × va_E := (a, .inl (t 2, n, .inl (iA f)))
abbrev aQ (t : Nat → ClassId) (a n : Nat) (f : Nat → Option Nat) : Nat × va_E := (a, .inl (t 3, n, .inr (.inr (.inr (.inr f)))))
/-! what every method may take as given of the machine: two statics of Throwable, the texts, the three tables, private constructors of nest mates -/
def evStr : List (Nat × String) := [(107, "the value is out of range"), (113, "the code is not 33 to 126"), (118, "the buffer is full"), (131, "the buffer is not a complete act text"), (139, "no state is saved"), (157, "the slot is empty"), (176, "the rank is negative"), (182, "the node is negative"), (195, "the index is negative"), (251, "the number of calls is less than 1"), (253, "the key is not 0 to 499"), (255, "there is no such number"), (257, "there is no such slot"), (259, "the speed is not 1 to 8"), (263, "there is no such setting"), (58, "the tree is full"), (79, "a rebuild is running"), (88, "no rebuild is running")]
def evTab : List (String × (Nat → Value)) := [("FIRST_VALUES", fun k => match k with | 0 => .int 50 | 1 => .int 10 | _ => .int 2), ("LEAST_VALUES", fun k => match k with | 0 => .int 10 | 1 => .int 3 | _ => .int 1), ("GREATEST_VALUES", fun k => match k with | 0 => .int 100 | 1 => .int 40 | _ => .int 8)]
def evNest : List (String × Nat × MethodName) := [(RX4, 29, yX0_init), (RX4, 43, yX1_init), (RX4, 9, yX2_init), (RX1, 11, yX3_init), (RX2, 11, yX3_init), (RX2, 20, yX1_init)]
def evCast : List (String × String) := [("[I", "java/lang/Cloneable"), ("java/lang/IllegalArgumentException", "java/lang/IllegalArgumentException"), ("java/lang/IllegalStateException", "java/lang/IllegalStateException"), ("java/lang/IndexOutOfBoundsException", "java/lang/IndexOutOfBoundsException")]
def evDecl : List MethodName := [Bundle.initS "java/lang/RuntimeException", Bundle.initS "java/lang/Exception", Bundle.initS Bundle.tN]
def evT (E : String) : List Cond := [.declares (Bundle.initS "java/lang/RuntimeException"), .declares (Bundle.initS "java/lang/Exception"), .declares (Bundle.initS Bundle.tN), .castable E E]
def Ev (A : Nat → Prop) (U : State) (H : Heap) : Prop :=
  vx_Zq Bundle.tN "UNASSIGNED_STACK" Bundle.steD A U H ∧ vx_Zq Bundle.tN "SUPPRESSED_SENTINEL" Bundle.listD A U H ∧
  (∀ q ∈ evStr, ∃ a, vk_R RX4 q.1 q.2 a U) ∧
  (∀ q ∈ evTab, ∃ a, va_Z RX4 q.1 "[I" (.ref a) A U H ∧ va_T .int a 3 q.2 A U H) ∧
  (∀ q ∈ evNest, va_Nw (.methodLinkNest q.1 q.2.1 q.2.2 RX4) U) ∧
  (∀ q ∈ evCast, va_Nw (.castable q.1 q.2) U) ∧ (∀ q ∈ evDecl, va_Nw (.declares q) U)
theorem Ev.pass {A B : Nat → Prop} {s U : State} {H : Heap} {locs : List Loc} (h : Ev A s s.heap) (hS : va_S A s.heap H locs) (hB : ∀ q, B q → A q) (hW : s.WarmedH U.vm) (hU : U.heap = H) : Ev B U U.heap := by
  obtain ⟨h1, h2, h3, h4, h5, h6, h7⟩ := h
  have hq : ∀ a : Nat, a < s.heap.size → ¬ A a → H[a]? = s.heap[a]? := fun a x y => hS.2.1 a x y
  rw [hU]
  refine ⟨((h1.kept hq).narrow hB).moved hW.alike, ((h2.kept hq).narrow hB).moved hW.alike, fun q hm => ?_, fun q hm => ?_, fun q hm => ?_, fun q hm => ?_, fun q hm => ?_⟩
  · obtain ⟨a, ha⟩ := h3 q hm
    exact ⟨a, ha.warm hW⟩
  · obtain ⟨a, ha, hb⟩ := h4 q hm
    exact ⟨a, ((ha.kept hq).narrow hB).moved hW.alike, ((hb.kept hq).narrow hB).moved hW.alike⟩
  · exact (h5 q hm).warmM hW
  · exact (h6 q hm).warmC hW
  · exact (h7 q hm).warmD hW
theorem Ev.same {A : Nat → Prop} {U U' : State} {H : Heap} (h : Ev A U H) (hv : U'.vm = U.vm) : Ev A U' H := by
  obtain ⟨h1, h2, h3, h4, h5, h6, h7⟩ := h
  have ha : U.vm.Alike U'.vm := by rw [hv]; exact Vm.Alike.refl _
  refine ⟨h1.moved ha, h2.moved ha, fun q hm => ?_, fun q hm => ?_, fun q hm => ?_, fun q hm => ?_, fun q hm => ?_⟩
  · obtain ⟨a, ha⟩ := h3 q hm
    exact ⟨a, ha.same hv⟩
  · obtain ⟨a, hz, hb⟩ := h4 q hm
    exact ⟨a, hz.moved ha, hb.moved ha⟩
  · exact (h5 q hm).same rfl hv.symm
  · exact (h6 q hm).same rfl hv.symm
  · exact (h7 q hm).same rfl hv.symm
/-- the judgment: from every heap and frame that hold ws and lv -/
def V (p : Program) (l : Launch) (e : Env) (R : Room) (s : State) (m : MethodId) (args : Array Value) (below : List Frame) (meth : Method) (c : Code) (D : va_G) (A : Nat → Prop) (nL cells slots : Nat) (Q : State → Prop) (pc : Nat) (lv : List (Nat × Value)) (st : List Value) (ws : va_W) : Prop :=
  ∀ (H : Heap) (locs : List Loc) (ls : Array Slot), lv_has ls nL lv → va_P D vwCl ws H → va_D A ws → va_S A s.heap H locs → W p l e R s m args below meth c H locs cells slots Q (F0 m pc ls st)
def Cx (p : Program) (R : Room) (s : State) (m : MethodId) (args : Array Value) (meth : Method) (c : Code) (D : va_G) (t : Nat → ClassId) (A : Nat → Prop) (nL : Nat) (cc : ByteArray) (Ts : List Cond) (own : String) : Prop :=
  p.tables.exec = Jvm.exec ∧ c.code = cc ∧ c.maxLocals = nL ∧ s.vm.findClass own = some m.cls ∧ (∀ w ∈ Ts, w.before args s = true) ∧ va_K D vwCl (tyL t) s ∧ (∀ q, s.heap.size ≤ q → A q) ∧ meth.locks = false ∧ Ev A s s.heap
/-! worlds up to order -/
theorem va_P_iff {D : va_G} {cl : List vw_C} {ws : va_W} {H : Heap} : va_P D cl ws H ↔ ∀ q ∈ ws, va_at D cl q H := by
  constructor
  · intro h q hq
    obtain ⟨k, hk⟩ := List.getElem?_of_mem hq
    exact h k q hk
  · intro h k q hk
    exact h q (List.mem_of_getElem? hk)
theorem va_D_iff {A : Nat → Prop} {ws : va_W} : va_D A ws ↔ (ws.map Prod.fst).Nodup ∧ ∀ q ∈ ws, A q.1 := by
  constructor
  · intro h
    refine ⟨?_, fun q hq => ?_⟩
    · rw [List.nodup_iff_pairwise_ne, List.pairwise_iff_getElem]
      intro i j hi hj hij he
      rw [List.length_map] at hi hj
      rw [List.getElem_map, List.getElem_map] at he
      have := h.1 i j ws[i] ws[j] (List.getElem?_eq_getElem hi) (List.getElem?_eq_getElem hj) he
      omega
    · obtain ⟨k, hk⟩ := List.getElem?_of_mem hq
      exact h.2 k q hk
  · intro h
    refine ⟨fun i j p q hi hj he => ?_, fun k q hk => h.2 q (List.mem_of_getElem? hk)⟩
    have h1 := h.1
    rw [List.nodup_iff_pairwise_ne, List.pairwise_iff_getElem] at h1
    obtain ⟨li, ei⟩ := List.getElem?_eq_some_iff.mp hi
    obtain ⟨lj, ej⟩ := List.getElem?_eq_some_iff.mp hj
    rcases Nat.lt_trichotomy i j with hlt | heq | hgt
    · refine absurd ?_ (h1 i j (by rw [List.length_map]; exact li) (by rw [List.length_map]; exact lj) hlt)
      rw [List.getElem_map, List.getElem_map, ei, ej]
      exact he
    · exact heq
    · refine absurd ?_ (h1 j i (by rw [List.length_map]; exact lj) (by rw [List.length_map]; exact li) hgt)
      rw [List.getElem_map, List.getElem_map, ei, ej]
      exact he.symm
theorem va_P.pm {D : va_G} {cl : List vw_C} {ws ws1 : va_W} {H : Heap} (h : ws.Perm ws1) (hP : va_P D cl ws H) : va_P D cl ws1 H := va_P_iff.mpr (fun q hq => va_P_iff.mp hP q (h.mem_iff.mpr hq))
theorem va_D.pm {A : Nat → Prop} {ws ws1 : va_W} (h : ws.Perm ws1) (hD : va_D A ws) : va_D A ws1 := by
  obtain ⟨h1, h2⟩ := va_D_iff.mp hD
  exact va_D_iff.mpr ⟨(h.map Prod.fst).nodup_iff.mp h1, fun q hq => h2 q (h.mem_iff.mpr hq)⟩
theorem va_P_app {D : va_G} {cl : List vw_C} {w1 w2 : va_W} {H : Heap} : va_P D cl (w1 ++ w2) H ↔ va_P D cl w1 H ∧ va_P D cl w2 H := by
  rw [va_P_iff, va_P_iff, va_P_iff]
  constructor
  · exact fun h => ⟨fun q hq => h q (List.mem_append_left _ hq), fun q hq => h q (List.mem_append_right _ hq)⟩
  · exact fun h q hq => (List.mem_append.mp hq).elim (h.1 q) (h.2 q)
theorem va_D_app {A : Nat → Prop} {w1 w2 : va_W} : va_D A (w1 ++ w2) ↔ va_D A w1 ∧ va_D A w2 ∧ ∀ p ∈ w1, ∀ q ∈ w2, p.1 ≠ q.1 := by
  rw [va_D_iff, va_D_iff, va_D_iff, List.map_append, List.nodup_append]
  constructor
  · rintro ⟨⟨h1, h2, h3⟩, h4⟩
    refine ⟨⟨h1, fun q hq => h4 q (List.mem_append_left _ hq)⟩, ⟨h2, fun q hq => h4 q (List.mem_append_right _ hq)⟩, fun p hp q hq => h3 p.1 (List.mem_map_of_mem hp) q.1 (List.mem_map_of_mem hq)⟩
  · rintro ⟨⟨h1, h4⟩, ⟨h2, h5⟩, h3⟩
    refine ⟨⟨h1, h2, fun a ha b hb => ?_⟩, fun q hq => (List.mem_append.mp hq).elim (h4 q) (h5 q)⟩
    obtain ⟨p, hp, rfl⟩ := List.mem_map.mp ha
    obtain ⟨q, hq, rfl⟩ := List.mem_map.mp hb
    exact h3 p hp q hq
theorem pmI {ws ws1 : va_W} (is : List Nat) (n : Nat) (hn : ws.length = n) (hi : (List.range n).isPerm is = true) (hs : is.map (fun i => ws[i]?) = ws1.map some) : ws.Perm ws1 := by
  subst hn
  have h1 : (List.range ws.length).Perm is := List.isPerm_iff.mp hi
  have h2 := h1.map (fun i => ws[i]?)
  rw [hs] at h2
  have e : (List.range ws.length).map (fun i => ws[i]?) = ws.map some := by
    refine List.ext_getElem? (fun k => ?_)
    rw [List.getElem?_map, List.getElem?_map]
    by_cases hk : k < ws.length
    · rw [List.getElem?_range hk, List.getElem?_eq_getElem hk]
      simp [hk]
    · rw [List.getElem?_eq_none (by rw [List.length_range]; omega), List.getElem?_eq_none (by omega)]
      rfl
  rw [e] at h2
  have h3 := h2.filterMap id
  rw [List.filterMap_map, List.filterMap_map] at h3
  have f : ∀ l : va_W, List.filterMap (id ∘ some) l = l := fun l => by
    rw [show (id ∘ some : (Nat × va_E) → Option (Nat × va_E)) = some from rfl, List.filterMap_some]
  rw [f, f] at h3
  exact h3
theorem pmF (F : va_W) {ws wc wr : va_W} (h : ws.Perm (wc ++ wr)) : (ws ++ F).Perm (wc ++ (wr ++ F)) := by
  rw [← List.append_assoc]
  exact h.append_right F
theorem pmG (F : va_W) {ws wc wr : va_W} (h : ws.Perm (wc ++ wr)) : (ws ++ F).Perm ((wc ++ F) ++ wr) := by
  refine (pmF F h).trans ?_
  rw [List.append_assoc]
  exact List.perm_append_comm.append_left wc
theorem pmF1 (F : va_W) {w1 wr cn : va_W} (h : (w1 ++ wr).Perm cn) : (w1 ++ (wr ++ F)).Perm (cn ++ F) := by
  rw [← List.append_assoc]
  exact h.append_right F
theorem pmG1 (F : va_W) {c1 wr cn : va_W} (h : (c1 ++ wr).Perm cn) : ((c1 ++ F) ++ wr).Perm (cn ++ F) := by
  refine List.Perm.trans ?_ (h.append_right F)
  rw [List.append_assoc, List.append_assoc]
  exact List.perm_append_comm.append_left c1
theorem fz_free {A0 : Nat → Prop} {ws wc wr : va_W} {H0 H : Heap} {locs : List Loc} (hD : va_D A0 ws) (hS : va_S A0 H0 H locs) (hA : ∀ q, H0.size ≤ q → A0 q) (hp : ws.Perm (wc ++ wr)) : ∀ q, va_A wc H.size q → A0 q := by
  intro q h
  rcases h with ⟨k, e, h⟩ | h
  · exact (va_D_iff.mp (hD.pm hp)).2 (q, e) (List.mem_append_left _ (List.mem_of_getElem? h))
  · exact hA q (Nat.le_trans hS.1 h)
theorem fz_join {A0 : Nat → Prop} {D : va_G} {cl : List vw_C} {ws wc wr w1 : va_W} {H H1 : Heap} (hP : va_P D cl ws H) (hD : va_D A0 ws) (hp : ws.Perm (wc ++ wr))
    (hk : ∀ q : Nat, q < H.size → ¬ va_A wc H.size q → H1[q]? = H[q]?) (hF : ∀ q, va_A wc H.size q → A0 q) (hP1 : va_P D cl w1 H1) (hD1 : va_D (va_A wc H.size) w1) : va_P D cl (w1 ++ wr) H1 ∧ va_D A0 (w1 ++ wr) := by
  obtain ⟨hDc, hDr, hx⟩ := va_D_app.mp (hD.pm hp)
  obtain ⟨hPc, hPr⟩ := va_P_app.mp (hP.pm hp)
  have apart : ∀ q ∈ wr, q.1 < H.size ∧ ¬ va_A wc H.size q.1 := by
    intro q hq
    obtain ⟨k, hk⟩ := List.getElem?_of_mem hq
    have hl := (hPr k q hk).lt
    refine ⟨hl, fun h => ?_⟩
    rcases h with ⟨k2, e, h⟩ | h
    · exact hx (q.1, e) (List.mem_of_getElem? h) q hq rfl
    · omega
  refine ⟨va_P_app.mpr ⟨hP1, va_P_iff.mpr (fun q hq => ?_)⟩, va_D_app.mpr ⟨hD1.weaken (fun k q _ h => hF q.1 h), hDr, fun p hp1 q hq he => ?_⟩⟩
  · obtain ⟨g1, g2⟩ := apart q hq
    exact (va_P_iff.mp hPr q hq).kept (hk q.1 g1 g2)
  · refine (apart q hq).2 ?_
    rw [← he]
    exact (va_D_iff.mp hD1).2 p hp1
section VR
variable {p : Program} {l : Launch} {e : Env} {R : Room} {s : State} {m : MethodId} {args : Array Value} {below : List Frame} {meth : Method} {c : Code} {D : va_G} {t : Nat → ClassId} {A : Nat → Prop} {nL : Nat} {cc : ByteArray} {Ts : List Cond} {own : String} {cells slots : Nat} {Q : State → Prop} {pc : Nat} {lv : List (Nat × Value)} {st : List Value} {ws : va_W}
theorem V_iconst (hc : Cx p R s m args meth c D t A nL cc Ts own) {n : Int} (hd : decode cc pc = .ok (.iconst n, 1)) (k : V p l e R s m args below meth c D A nL cells slots Q (pc + 1) lv (.int (iI n) :: st) ws) : V p l e R s m args below meth c D A nL cells slots Q pc lv st ws := by
  obtain ⟨hx, hb, hml, hown, hts, hK, hA, hlk, hE⟩ := hc
  intro H locs ls hl hP hD hS
  exact lv_iconst hx hb hd rfl (k H locs ls hl hP hD hS)
theorem V_bipush (hc : Cx p R s m args meth c D t A nL cc Ts own) {n : Int} (hd : decode cc pc = .ok (.bipush n, 2)) (hv : (Int8.ofInt n).toInt32 = iI n) (k : V p l e R s m args below meth c D A nL cells slots Q (pc + 2) lv (.int (iI n) :: st) ws) : V p l e R s m args below meth c D A nL cells slots Q pc lv st ws := by
  obtain ⟨hx, hb, hml, hown, hts, hK, hA, hlk, hE⟩ := hc
  intro H locs ls hl hP hD hS
  exact lv_bipush hx hb hd hv (k H locs ls hl hP hD hS)
theorem V_sipush (hc : Cx p R s m args meth c D t A nL cc Ts own) {n : Int} (hd : decode cc pc = .ok (.sipush n, 3)) (hv : (Int16.ofInt n).toInt32 = iI n) (k : V p l e R s m args below meth c D A nL cells slots Q (pc + 3) lv (.int (iI n) :: st) ws) : V p l e R s m args below meth c D A nL cells slots Q pc lv st ws := by
  obtain ⟨hx, hb, hml, hown, hts, hK, hA, hlk, hE⟩ := hc
  intro H locs ls hl hP hD hS
  exact lv_sipush hx hb hd hv (k H locs ls hl hP hD hS)
theorem V_iload_n (hc : Cx p R s m args meth c D t A nL cc Ts own) {i : Fin 4} {x : Int32} (hd : decode cc pc = .ok (.iload_n i, 1)) (j : Nat) (hj : lv[j]? = some ((i : Nat), .int x)) (k : V p l e R s m args below meth c D A nL cells slots Q (pc + 1) lv (.int x :: st) ws) : V p l e R s m args below meth c D A nL cells slots Q pc lv st ws := by
  obtain ⟨hx, hb, hml, hown, hts, hK, hA, hlk, hE⟩ := hc
  intro H locs ls hl hP hD hS
  exact lv_iload_n hx hb hd rfl (lv_at hl j hj) (k H locs ls hl hP hD hS)
theorem V_iload (hc : Cx p R s m args meth c D t A nL cc Ts own) {i : Nat} {x : Int32} (hd : decode cc pc = .ok (.iload i, 2)) (j : Nat) (hj : lv[j]? = some (i, .int x)) (k : V p l e R s m args below meth c D A nL cells slots Q (pc + 2) lv (.int x :: st) ws) : V p l e R s m args below meth c D A nL cells slots Q pc lv st ws := by
  obtain ⟨hx, hb, hml, hown, hts, hK, hA, hlk, hE⟩ := hc
  intro H locs ls hl hP hD hS
  exact lv_iload hx hb hd (lv_at hl j hj) (k H locs ls hl hP hD hS)
theorem V_aload_n (hc : Cx p R s m args meth c D t A nL cc Ts own) {i : Fin 4} {x : Nat} (hd : decode cc pc = .ok (.aload_n i, 1)) (j : Nat) (hj : lv[j]? = some ((i : Nat), .ref x)) (k : V p l e R s m args below meth c D A nL cells slots Q (pc + 1) lv (.ref x :: st) ws) : V p l e R s m args below meth c D A nL cells slots Q pc lv st ws := by
  obtain ⟨hx, hb, hml, hown, hts, hK, hA, hlk, hE⟩ := hc
  intro H locs ls hl hP hD hS
  exact lv_aload_n hx hb hd rfl (lv_at hl j hj) (k H locs ls hl hP hD hS)
theorem V_aload (hc : Cx p R s m args meth c D t A nL cc Ts own) {i : Nat} {x : Nat} (hd : decode cc pc = .ok (.aload i, 2)) (j : Nat) (hj : lv[j]? = some (i, .ref x)) (k : V p l e R s m args below meth c D A nL cells slots Q (pc + 2) lv (.ref x :: st) ws) : V p l e R s m args below meth c D A nL cells slots Q pc lv st ws := by
  obtain ⟨hx, hb, hml, hown, hts, hK, hA, hlk, hE⟩ := hc
  intro H locs ls hl hP hD hS
  exact lv_aload hx hb hd (lv_at hl j hj) (k H locs ls hl hP hD hS)
theorem V_istore_n (hc : Cx p R s m args meth c D t A nL cc Ts own) {i : Fin 4} {x : Int32} (hd : decode cc pc = .ok (.istore_n i, 1)) (lv1 : List (Nat × Value)) (hn : (i : Nat) < nL) (hl1 : ((i : Nat), Value.int x) :: lv.filter (fun q => !(q.1 == (i : Nat)) && !(q.1 + 1 == (i : Nat) && q.2.category == 2)) = lv1) (k : V p l e R s m args below meth c D A nL cells slots Q (pc + 1) lv1 st ws) : V p l e R s m args below meth c D A nL cells slots Q pc lv (.int x :: st) ws := by
  obtain ⟨hx, hb, hml, hown, hts, hK, hA, hlk, hE⟩ := hc
  intro H locs ls hl hP hD hS
  exact lv_istore_n hx hb hd rfl hl hn hl1 (fun ls1 h1 => k H locs ls1 h1 hP hD hS)
theorem V_istore (hc : Cx p R s m args meth c D t A nL cc Ts own) {i : Nat} {x : Int32} (hd : decode cc pc = .ok (.istore i, 2)) (lv1 : List (Nat × Value)) (hn : i < nL) (hl1 : (i, Value.int x) :: lv.filter (fun q => !(q.1 == i) && !(q.1 + 1 == i && q.2.category == 2)) = lv1) (k : V p l e R s m args below meth c D A nL cells slots Q (pc + 2) lv1 st ws) : V p l e R s m args below meth c D A nL cells slots Q pc lv (.int x :: st) ws := by
  obtain ⟨hx, hb, hml, hown, hts, hK, hA, hlk, hE⟩ := hc
  intro H locs ls hl hP hD hS
  exact lv_istore hx hb hd hl hn hl1 (fun ls1 h1 => k H locs ls1 h1 hP hD hS)
theorem V_astore_n (hc : Cx p R s m args meth c D t A nL cc Ts own) {i : Fin 4} {x : Nat} (hd : decode cc pc = .ok (.astore_n i, 1)) (lv1 : List (Nat × Value)) (hn : (i : Nat) < nL) (hl1 : ((i : Nat), Value.ref x) :: lv.filter (fun q => !(q.1 == (i : Nat)) && !(q.1 + 1 == (i : Nat) && q.2.category == 2)) = lv1) (k : V p l e R s m args below meth c D A nL cells slots Q (pc + 1) lv1 st ws) : V p l e R s m args below meth c D A nL cells slots Q pc lv (.ref x :: st) ws := by
  obtain ⟨hx, hb, hml, hown, hts, hK, hA, hlk, hE⟩ := hc
  intro H locs ls hl hP hD hS
  exact lv_astore_n hx hb hd rfl hl hn hl1 (fun ls1 h1 => k H locs ls1 h1 hP hD hS)
theorem V_astore (hc : Cx p R s m args meth c D t A nL cc Ts own) {i : Nat} {x : Nat} (hd : decode cc pc = .ok (.astore i, 2)) (lv1 : List (Nat × Value)) (hn : i < nL) (hl1 : (i, Value.ref x) :: lv.filter (fun q => !(q.1 == i) && !(q.1 + 1 == i && q.2.category == 2)) = lv1) (k : V p l e R s m args below meth c D A nL cells slots Q (pc + 2) lv1 st ws) : V p l e R s m args below meth c D A nL cells slots Q pc lv (.ref x :: st) ws := by
  obtain ⟨hx, hb, hml, hown, hts, hK, hA, hlk, hE⟩ := hc
  intro H locs ls hl hP hD hS
  exact lv_astore hx hb hd hl hn hl1 (fun ls1 h1 => k H locs ls1 h1 hP hD hS)
theorem V_iinc (hc : Cx p R s m args meth c D t A nL cc Ts own) {i : Nat} {n a : Int} (hd : decode cc pc = .ok (.iinc i n, 3)) (j : Nat) (hj : lv[j]? = some (i, .int (iI a))) (lv1 : List (Nat × Value)) (hn : i < nL) (hl1 : (i, Value.int (iI (a + n))) :: lv.filter (fun q => !(q.1 == i) && !(q.1 + 1 == i && q.2.category == 2)) = lv1) (k : V p l e R s m args below meth c D A nL cells slots Q (pc + 3) lv1 st ws) : V p l e R s m args below meth c D A nL cells slots Q pc lv st ws := by
  obtain ⟨hx, hb, hml, hown, hts, hK, hA, hlk, hE⟩ := hc
  intro H locs ls hl hP hD hS
  exact lv_iinc (v := iI (a + n)) hx hb hd hl hj (iI_add a n) hn hl1 (fun ls1 h1 => k H locs ls1 h1 hP hD hS)
theorem V_iadd (hc : Cx p R s m args meth c D t A nL cc Ts own) {a b : Int} (hd : decode cc pc = .ok (.iadd, 1)) (k : V p l e R s m args below meth c D A nL cells slots Q (pc + 1) lv (.int (iI (a + b)) :: st) ws) : V p l e R s m args below meth c D A nL cells slots Q pc lv (.int (iI b) :: .int (iI a) :: st) ws := by
  obtain ⟨hx, hb, hml, hown, hts, hK, hA, hlk, hE⟩ := hc
  intro H locs ls hl hP hD hS
  refine lv_iadd hx hb hd ?_
  rw [iI_add]
  exact k H locs ls hl hP hD hS
theorem V_isub (hc : Cx p R s m args meth c D t A nL cc Ts own) {a b : Int} (hd : decode cc pc = .ok (.isub, 1)) (k : V p l e R s m args below meth c D A nL cells slots Q (pc + 1) lv (.int (iI (a - b)) :: st) ws) : V p l e R s m args below meth c D A nL cells slots Q pc lv (.int (iI b) :: .int (iI a) :: st) ws := by
  obtain ⟨hx, hb, hml, hown, hts, hK, hA, hlk, hE⟩ := hc
  intro H locs ls hl hP hD hS
  refine lv_isub hx hb hd ?_
  rw [iI_sub]
  exact k H locs ls hl hP hD hS
theorem V_imul (hc : Cx p R s m args meth c D t A nL cc Ts own) {a b : Int} (hd : decode cc pc = .ok (.imul, 1)) (k : V p l e R s m args below meth c D A nL cells slots Q (pc + 1) lv (.int (iI (a * b)) :: st) ws) : V p l e R s m args below meth c D A nL cells slots Q pc lv (.int (iI b) :: .int (iI a) :: st) ws := by
  obtain ⟨hx, hb, hml, hown, hts, hK, hA, hlk, hE⟩ := hc
  intro H locs ls hl hP hD hS
  refine lv_imul hx hb hd ?_
  rw [iI_mul]
  exact k H locs ls hl hP hD hS
theorem V_idiv (hc : Cx p R s m args meth c D t A nL cc Ts own) {a b : Int} {X : Prop} (hd : decode cc pc = .ok (.idiv, 1)) (hv : (0 ≤ a ∧ a ≤ 2147483647) ∧ (0 < b ∧ b ≤ 2147483647) ∧ X) (k : X → V p l e R s m args below meth c D A nL cells slots Q (pc + 1) lv (.int (iI (a / b)) :: st) ws) : V p l e R s m args below meth c D A nL cells slots Q pc lv (.int (iI b) :: .int (iI a) :: st) ws := by
  obtain ⟨hx, hb, hml, hown, hts, hK, hA, hlk, hE⟩ := hc
  intro H locs ls hl hP hD hS
  obtain ⟨ha, hb2, hX⟩ := hv
  refine lv_idiv hx hb hd (fun q => ?_) ?_
  · rw [← iI_0, iI_eq (by omega) (by omega)] at q
    omega
  · rw [iI_div ha hb2]
    exact k hX H locs ls hl hP hD hS
theorem V_irem (hc : Cx p R s m args meth c D t A nL cc Ts own) {a b : Int} {X : Prop} (hd : decode cc pc = .ok (.irem, 1)) (hv : (0 ≤ a ∧ a ≤ 2147483647) ∧ (0 < b ∧ b ≤ 2147483647) ∧ X) (k : X → V p l e R s m args below meth c D A nL cells slots Q (pc + 1) lv (.int (iI (a % b)) :: st) ws) : V p l e R s m args below meth c D A nL cells slots Q pc lv (.int (iI b) :: .int (iI a) :: st) ws := by
  obtain ⟨hx, hb, hml, hown, hts, hK, hA, hlk, hE⟩ := hc
  intro H locs ls hl hP hD hS
  obtain ⟨ha, hb2, hX⟩ := hv
  refine lv_irem hx hb hd (fun q => ?_) ?_
  · rw [← iI_0, iI_eq (by omega) (by omega)] at q
    omega
  · rw [iI_rem ha hb2]
    exact k hX H locs ls hl hP hD hS
theorem V_i2c (hc : Cx p R s m args meth c D t A nL cc Ts own) {a : Int} {X : Prop} (hd : decode cc pc = .ok (.i2c, 1)) (hv : (0 ≤ a ∧ a ≤ 65535) ∧ X) (k : X → V p l e R s m args below meth c D A nL cells slots Q (pc + 1) lv (.int (iI a) :: st) ws) : V p l e R s m args below meth c D A nL cells slots Q pc lv (.int (iI a) :: st) ws := by
  obtain ⟨hx, hb, hml, hown, hts, hK, hA, hlk, hE⟩ := hc
  intro H locs ls hl hP hD hS
  exact lv_i2c hx hb hd (iI_c hv.1).1 (k hv.2 H locs ls hl hP hD hS)
theorem V_dup (hc : Cx p R s m args meth c D t A nL cc Ts own) {v : Value} (hd : decode cc pc = .ok (.dup, 1)) (h1 : v.category = 1) (k : V p l e R s m args below meth c D A nL cells slots Q (pc + 1) lv (v :: v :: st) ws) : V p l e R s m args below meth c D A nL cells slots Q pc lv (v :: st) ws := by
  obtain ⟨hx, hb, hml, hown, hts, hK, hA, hlk, hE⟩ := hc
  intro H locs ls hl hP hD hS
  exact lv_dup hx hb hd h1 (k H locs ls hl hP hD hS)
theorem V_pop (hc : Cx p R s m args meth c D t A nL cc Ts own) {v : Value} (hd : decode cc pc = .ok (.pop, 1)) (h1 : v.category = 1) (k : V p l e R s m args below meth c D A nL cells slots Q (pc + 1) lv st ws) : V p l e R s m args below meth c D A nL cells slots Q pc lv (v :: st) ws := by
  obtain ⟨hx, hb, hml, hown, hts, hK, hA, hlk, hE⟩ := hc
  intro H locs ls hl hP hD hS
  exact lv_pop hx hb hd h1 (k H locs ls hl hP hD hS)
theorem V_dup2 (hc : Cx p R s m args meth c D t A nL cc Ts own) {v u : Value} (hd : decode cc pc = .ok (.dup2, 1)) (h1 : v.category = 1) (h2 : u.category = 1) (k : V p l e R s m args below meth c D A nL cells slots Q (pc + 1) lv (v :: u :: v :: u :: st) ws) : V p l e R s m args below meth c D A nL cells slots Q pc lv (v :: u :: st) ws := by
  obtain ⟨hx, hb, hml, hown, hts, hK, hA, hlk, hE⟩ := hc
  intro H locs ls hl hP hD hS
  exact lv_dup2_11 hx hb hd h1 h2 (k H locs ls hl hP hD hS)
theorem V_dup_x1 (hc : Cx p R s m args meth c D t A nL cc Ts own) {v u : Value} (hd : decode cc pc = .ok (.dup_x1, 1)) (h1 : v.category = 1) (h2 : u.category = 1) (k : V p l e R s m args below meth c D A nL cells slots Q (pc + 1) lv (v :: u :: v :: st) ws) : V p l e R s m args below meth c D A nL cells slots Q pc lv (v :: u :: st) ws := by
  obtain ⟨hx, hb, hml, hown, hts, hK, hA, hlk, hE⟩ := hc
  intro H locs ls hl hP hD hS
  exact lv_dup_x1 hx hb hd h1 h2 (k H locs ls hl hP hD hS)
theorem V_goto (hc : Cx p R s m args meth c D t A nL cc Ts own) {off : Int} {tgt : Nat} (hd : decode cc pc = .ok (.goto off, 3)) (ht : (pc : Int) + off = (tgt : Int)) (k : V p l e R s m args below meth c D A nL cells slots Q tgt lv st ws) : V p l e R s m args below meth c D A nL cells slots Q pc lv st ws := by
  obtain ⟨hx, hb, hml, hown, hts, hK, hA, hlk, hE⟩ := hc
  intro H locs ls hl hP hD hS
  exact lv_goto hx hb hd ht (k H locs ls hl hP hD hS)
theorem V_icmp_lt (hc : Cx p R s m args meth c D t A nL cc Ts own) {a b : Int} {X Y : Prop} {off : Int} {tgt : Nat} (hd : decode cc pc = .ok (.if_icmp .lt off, 3)) (ht : (pc : Int) + off = (tgt : Int)) (hv : inR a ∧ inR b ∧ (a < b → X) ∧ (¬ a < b → Y)) (kt : X → V p l e R s m args below meth c D A nL cells slots Q tgt lv st ws) (kf : Y → V p l e R s m args below meth c D A nL cells slots Q (pc + 3) lv st ws) : V p l e R s m args below meth c D A nL cells slots Q pc lv (.int (iI b) :: .int (iI a) :: st) ws := by
  obtain ⟨hx, hb, hml, hown, hts, hK, hA, hlk, hE⟩ := hc
  intro H locs ls hl hP hD hS
  obtain ⟨ha, hb2, hX, hY⟩ := hv
  
  exact lv_icmp_lt hx hb hd ht (fun h => kt (hX ((iI_lt ha hb2).mp h)) H locs ls hl hP hD hS) (fun h => kf (hY (fun q => h ((iI_lt ha hb2).mpr q))) H locs ls hl hP hD hS)
theorem V_if_lt (hc : Cx p R s m args meth c D t A nL cc Ts own) {a : Int} {X Y : Prop} {off : Int} {tgt : Nat} (hd : decode cc pc = .ok (.ifCond .lt off, 3)) (ht : (pc : Int) + off = (tgt : Int)) (hv : inR a ∧ (a < 0 → X) ∧ (¬ a < 0 → Y)) (kt : X → V p l e R s m args below meth c D A nL cells slots Q tgt lv st ws) (kf : Y → V p l e R s m args below meth c D A nL cells slots Q (pc + 3) lv st ws) : V p l e R s m args below meth c D A nL cells slots Q pc lv (.int (iI a) :: st) ws := by
  obtain ⟨hx, hb, hml, hown, hts, hK, hA, hlk, hE⟩ := hc
  intro H locs ls hl hP hD hS
  obtain ⟨ha, hX, hY⟩ := hv
  have hb2 : inR 0 := by omega
  exact lv_if_lt hx hb hd ht (fun h => kt (hX ((iI_lt ha hb2).mp h)) H locs ls hl hP hD hS) (fun h => kf (hY (fun q => h ((iI_lt ha hb2).mpr q))) H locs ls hl hP hD hS)
theorem V_icmp_ge (hc : Cx p R s m args meth c D t A nL cc Ts own) {a b : Int} {X Y : Prop} {off : Int} {tgt : Nat} (hd : decode cc pc = .ok (.if_icmp .ge off, 3)) (ht : (pc : Int) + off = (tgt : Int)) (hv : inR a ∧ inR b ∧ (a ≥ b → X) ∧ (¬ a ≥ b → Y)) (kt : X → V p l e R s m args below meth c D A nL cells slots Q tgt lv st ws) (kf : Y → V p l e R s m args below meth c D A nL cells slots Q (pc + 3) lv st ws) : V p l e R s m args below meth c D A nL cells slots Q pc lv (.int (iI b) :: .int (iI a) :: st) ws := by
  obtain ⟨hx, hb, hml, hown, hts, hK, hA, hlk, hE⟩ := hc
  intro H locs ls hl hP hD hS
  obtain ⟨ha, hb2, hX, hY⟩ := hv
  
  exact lv_icmp_ge hx hb hd ht (fun h => kt (hX ((iI_le hb2 ha).mp h)) H locs ls hl hP hD hS) (fun h => kf (hY (fun q => h ((iI_le hb2 ha).mpr q))) H locs ls hl hP hD hS)
theorem V_if_ge (hc : Cx p R s m args meth c D t A nL cc Ts own) {a : Int} {X Y : Prop} {off : Int} {tgt : Nat} (hd : decode cc pc = .ok (.ifCond .ge off, 3)) (ht : (pc : Int) + off = (tgt : Int)) (hv : inR a ∧ (a ≥ 0 → X) ∧ (¬ a ≥ 0 → Y)) (kt : X → V p l e R s m args below meth c D A nL cells slots Q tgt lv st ws) (kf : Y → V p l e R s m args below meth c D A nL cells slots Q (pc + 3) lv st ws) : V p l e R s m args below meth c D A nL cells slots Q pc lv (.int (iI a) :: st) ws := by
  obtain ⟨hx, hb, hml, hown, hts, hK, hA, hlk, hE⟩ := hc
  intro H locs ls hl hP hD hS
  obtain ⟨ha, hX, hY⟩ := hv
  have hb2 : inR 0 := by omega
  exact lv_if_ge hx hb hd ht (fun h => kt (hX ((iI_le hb2 ha).mp h)) H locs ls hl hP hD hS) (fun h => kf (hY (fun q => h ((iI_le hb2 ha).mpr q))) H locs ls hl hP hD hS)
theorem V_icmp_gt (hc : Cx p R s m args meth c D t A nL cc Ts own) {a b : Int} {X Y : Prop} {off : Int} {tgt : Nat} (hd : decode cc pc = .ok (.if_icmp .gt off, 3)) (ht : (pc : Int) + off = (tgt : Int)) (hv : inR a ∧ inR b ∧ (a > b → X) ∧ (¬ a > b → Y)) (kt : X → V p l e R s m args below meth c D A nL cells slots Q tgt lv st ws) (kf : Y → V p l e R s m args below meth c D A nL cells slots Q (pc + 3) lv st ws) : V p l e R s m args below meth c D A nL cells slots Q pc lv (.int (iI b) :: .int (iI a) :: st) ws := by
  obtain ⟨hx, hb, hml, hown, hts, hK, hA, hlk, hE⟩ := hc
  intro H locs ls hl hP hD hS
  obtain ⟨ha, hb2, hX, hY⟩ := hv
  
  exact lv_icmp_gt hx hb hd ht (fun h => kt (hX ((iI_lt hb2 ha).mp h)) H locs ls hl hP hD hS) (fun h => kf (hY (fun q => h ((iI_lt hb2 ha).mpr q))) H locs ls hl hP hD hS)
theorem V_if_gt (hc : Cx p R s m args meth c D t A nL cc Ts own) {a : Int} {X Y : Prop} {off : Int} {tgt : Nat} (hd : decode cc pc = .ok (.ifCond .gt off, 3)) (ht : (pc : Int) + off = (tgt : Int)) (hv : inR a ∧ (a > 0 → X) ∧ (¬ a > 0 → Y)) (kt : X → V p l e R s m args below meth c D A nL cells slots Q tgt lv st ws) (kf : Y → V p l e R s m args below meth c D A nL cells slots Q (pc + 3) lv st ws) : V p l e R s m args below meth c D A nL cells slots Q pc lv (.int (iI a) :: st) ws := by
  obtain ⟨hx, hb, hml, hown, hts, hK, hA, hlk, hE⟩ := hc
  intro H locs ls hl hP hD hS
  obtain ⟨ha, hX, hY⟩ := hv
  have hb2 : inR 0 := by omega
  exact lv_if_gt hx hb hd ht (fun h => kt (hX ((iI_lt hb2 ha).mp h)) H locs ls hl hP hD hS) (fun h => kf (hY (fun q => h ((iI_lt hb2 ha).mpr q))) H locs ls hl hP hD hS)
theorem V_icmp_le (hc : Cx p R s m args meth c D t A nL cc Ts own) {a b : Int} {X Y : Prop} {off : Int} {tgt : Nat} (hd : decode cc pc = .ok (.if_icmp .le off, 3)) (ht : (pc : Int) + off = (tgt : Int)) (hv : inR a ∧ inR b ∧ (a ≤ b → X) ∧ (¬ a ≤ b → Y)) (kt : X → V p l e R s m args below meth c D A nL cells slots Q tgt lv st ws) (kf : Y → V p l e R s m args below meth c D A nL cells slots Q (pc + 3) lv st ws) : V p l e R s m args below meth c D A nL cells slots Q pc lv (.int (iI b) :: .int (iI a) :: st) ws := by
  obtain ⟨hx, hb, hml, hown, hts, hK, hA, hlk, hE⟩ := hc
  intro H locs ls hl hP hD hS
  obtain ⟨ha, hb2, hX, hY⟩ := hv
  
  exact lv_icmp_le hx hb hd ht (fun h => kt (hX ((iI_le ha hb2).mp h)) H locs ls hl hP hD hS) (fun h => kf (hY (fun q => h ((iI_le ha hb2).mpr q))) H locs ls hl hP hD hS)
theorem V_if_le (hc : Cx p R s m args meth c D t A nL cc Ts own) {a : Int} {X Y : Prop} {off : Int} {tgt : Nat} (hd : decode cc pc = .ok (.ifCond .le off, 3)) (ht : (pc : Int) + off = (tgt : Int)) (hv : inR a ∧ (a ≤ 0 → X) ∧ (¬ a ≤ 0 → Y)) (kt : X → V p l e R s m args below meth c D A nL cells slots Q tgt lv st ws) (kf : Y → V p l e R s m args below meth c D A nL cells slots Q (pc + 3) lv st ws) : V p l e R s m args below meth c D A nL cells slots Q pc lv (.int (iI a) :: st) ws := by
  obtain ⟨hx, hb, hml, hown, hts, hK, hA, hlk, hE⟩ := hc
  intro H locs ls hl hP hD hS
  obtain ⟨ha, hX, hY⟩ := hv
  have hb2 : inR 0 := by omega
  exact lv_if_le hx hb hd ht (fun h => kt (hX ((iI_le ha hb2).mp h)) H locs ls hl hP hD hS) (fun h => kf (hY (fun q => h ((iI_le ha hb2).mpr q))) H locs ls hl hP hD hS)
theorem V_icmp_eq (hc : Cx p R s m args meth c D t A nL cc Ts own) {a b : Int} {X Y : Prop} {off : Int} {tgt : Nat} (hd : decode cc pc = .ok (.if_icmp .eq off, 3)) (ht : (pc : Int) + off = (tgt : Int)) (hv : inR a ∧ inR b ∧ (a = b → X) ∧ (¬ a = b → Y)) (kt : X → V p l e R s m args below meth c D A nL cells slots Q tgt lv st ws) (kf : Y → V p l e R s m args below meth c D A nL cells slots Q (pc + 3) lv st ws) : V p l e R s m args below meth c D A nL cells slots Q pc lv (.int (iI b) :: .int (iI a) :: st) ws := by
  obtain ⟨hx, hb, hml, hown, hts, hK, hA, hlk, hE⟩ := hc
  intro H locs ls hl hP hD hS
  obtain ⟨ha, hb2, hX, hY⟩ := hv
  
  exact lv_icmp_eq hx hb hd ht (fun h => kt (hX ((iI_eq ha hb2).mp h)) H locs ls hl hP hD hS) (fun h => kf (hY (fun q => h ((iI_eq ha hb2).mpr q))) H locs ls hl hP hD hS)
theorem V_if_eq (hc : Cx p R s m args meth c D t A nL cc Ts own) {a : Int} {X Y : Prop} {off : Int} {tgt : Nat} (hd : decode cc pc = .ok (.ifCond .eq off, 3)) (ht : (pc : Int) + off = (tgt : Int)) (hv : inR a ∧ (a = 0 → X) ∧ (¬ a = 0 → Y)) (kt : X → V p l e R s m args below meth c D A nL cells slots Q tgt lv st ws) (kf : Y → V p l e R s m args below meth c D A nL cells slots Q (pc + 3) lv st ws) : V p l e R s m args below meth c D A nL cells slots Q pc lv (.int (iI a) :: st) ws := by
  obtain ⟨hx, hb, hml, hown, hts, hK, hA, hlk, hE⟩ := hc
  intro H locs ls hl hP hD hS
  obtain ⟨ha, hX, hY⟩ := hv
  have hb2 : inR 0 := by omega
  exact lv_if_eq hx hb hd ht (fun h => kt (hX ((iI_eq ha hb2).mp h)) H locs ls hl hP hD hS) (fun h => kf (hY (fun q => h ((iI_eq ha hb2).mpr q))) H locs ls hl hP hD hS)
theorem V_icmp_ne (hc : Cx p R s m args meth c D t A nL cc Ts own) {a b : Int} {X Y : Prop} {off : Int} {tgt : Nat} (hd : decode cc pc = .ok (.if_icmp .ne off, 3)) (ht : (pc : Int) + off = (tgt : Int)) (hv : inR a ∧ inR b ∧ (a ≠ b → X) ∧ (¬ a ≠ b → Y)) (kt : X → V p l e R s m args below meth c D A nL cells slots Q tgt lv st ws) (kf : Y → V p l e R s m args below meth c D A nL cells slots Q (pc + 3) lv st ws) : V p l e R s m args below meth c D A nL cells slots Q pc lv (.int (iI b) :: .int (iI a) :: st) ws := by
  obtain ⟨hx, hb, hml, hown, hts, hK, hA, hlk, hE⟩ := hc
  intro H locs ls hl hP hD hS
  obtain ⟨ha, hb2, hX, hY⟩ := hv
  
  exact lv_icmp_ne hx hb hd ht (fun h => kt (hX (fun q => h ((iI_eq ha hb2).mpr q))) H locs ls hl hP hD hS) (fun h => kf (hY (fun q => q ((iI_eq ha hb2).mp h))) H locs ls hl hP hD hS)
theorem V_if_ne (hc : Cx p R s m args meth c D t A nL cc Ts own) {a : Int} {X Y : Prop} {off : Int} {tgt : Nat} (hd : decode cc pc = .ok (.ifCond .ne off, 3)) (ht : (pc : Int) + off = (tgt : Int)) (hv : inR a ∧ (a ≠ 0 → X) ∧ (¬ a ≠ 0 → Y)) (kt : X → V p l e R s m args below meth c D A nL cells slots Q tgt lv st ws) (kf : Y → V p l e R s m args below meth c D A nL cells slots Q (pc + 3) lv st ws) : V p l e R s m args below meth c D A nL cells slots Q pc lv (.int (iI a) :: st) ws := by
  obtain ⟨hx, hb, hml, hown, hts, hK, hA, hlk, hE⟩ := hc
  intro H locs ls hl hP hD hS
  obtain ⟨ha, hX, hY⟩ := hv
  have hb2 : inR 0 := by omega
  exact lv_if_ne hx hb hd ht (fun h => kt (hX (fun q => h ((iI_eq ha hb2).mpr q))) H locs ls hl hP hD hS) (fun h => kf (hY (fun q => q ((iI_eq ha hb2).mp h))) H locs ls hl hP hD hS)
theorem V_tableOut (hc : Cx p R s m args meth c D t A nL cc Ts own) {dflt lo hi : Int} {offs : Array Int} {len : Nat} {a : Int} {tgt : Nat} (hd : decode cc pc = .ok (.tableswitch dflt lo hi offs, len)) (hr : inR a) (h : a < lo ∨ hi < a) (ht : (pc : Int) + dflt = (tgt : Int)) (k : V p l e R s m args below meth c D A nL cells slots Q tgt lv st ws) : V p l e R s m args below meth c D A nL cells slots Q pc lv (.int (iI a) :: st) ws := by
  obtain ⟨hx, hb, hml, hown, hts, hK, hA, hlk, hE⟩ := hc
  intro H locs ls hl hP hD hS
  exact lv_tableOut hx hb hd (by rw [iI_T hr]; exact h) ht (k H locs ls hl hP hD hS)
theorem V_tableIn (hc : Cx p R s m args meth c D t A nL cc Ts own) {dflt lo hi : Int} {offs : Array Int} {len : Nat} {a : Int} {off : Int} {tgt : Nat} (hd : decode cc pc = .ok (.tableswitch dflt lo hi offs, len)) (hr : inR a) (h1 : ¬ a < lo) (h2 : ¬ hi < a) (ho : offs[(a - lo).toNat]? = some off) (ht : (pc : Int) + off = (tgt : Int)) (k : V p l e R s m args below meth c D A nL cells slots Q tgt lv st ws) : V p l e R s m args below meth c D A nL cells slots Q pc lv (.int (iI a) :: st) ws := by
  obtain ⟨hx, hb, hml, hown, hts, hK, hA, hlk, hE⟩ := hc
  intro H locs ls hl hP hD hS
  exact lv_tableIn hx hb hd (by rw [iI_T hr]; exact h1) (by rw [iI_T hr]; exact h2) (by rw [iI_T hr]; exact ho) ht (k H locs ls hl hP hD hS)
theorem V_get (hc : Cx p R s m args meth c D t A nL cc Ts own) {C : String} {T : u_T} {N ci index a : Nat} (hin : ∀ w ∈ u_ws C T N, w ∈ Ts) (q0 : Nat) {fs : List Value} (he : ws[q0]? = some (a, .inr (ci, fs))) (hcl : vwCl[ci]? = some (C, T, N)) (f : Nat) (hf : f < N) (hlink : Cond.fieldLink own index (T f).1 (T f).2.1 (T f).2.2.1 ∈ Ts) {v : Value} (hv : fs[f]? = some v) (hd : decode cc pc = .ok (.getfield index, 3)) (k : V p l e R s m args below meth c D A nL cells slots Q (pc + 3) lv (v :: st) ws) : V p l e R s m args below meth c D A nL cells slots Q pc lv (.ref a :: st) ws := by
  obtain ⟨hx, hb, hml, hown, hts, hK, hA, hlk, hE⟩ := hc
  intro H locs ls hl hP hD hS
  exact va_get hx hb hts hin hown hK hP q0 he hcl f hf (hts _ hlink) (fun _ h9 => h9) hv hd (k H locs ls hl hP hD hS)
theorem V_puti (hc : Cx p R s m args meth c D t A nL cc Ts own) {C : String} {T : u_T} {N ci index a : Nat} (hin : ∀ w ∈ u_ws C T N, w ∈ Ts) (q0 : Nat) {fs : List Value} (he : ws[q0]? = some (a, .inr (ci, fs))) (hcl : vwCl[ci]? = some (C, T, N)) (f : Nat) (hf : f < N) (hlink : Cond.fieldLink own index (T f).1 (T f).2.1 (T f).2.2.1 ∈ Ts) (ty0 : Nat → FieldType) (hty : ∀ k, k < N → parseFieldDescriptor (T k).2.2.1 = some (ty0 k)) (hnm : ∀ a, a < N → ∀ b, b < N → a ≠ b → (T a).2.1 ≠ (T b).2.1) {x : Int} (hfin : (T f).2.2.2 = false) (hde : parseFieldDescriptor (T f).2.2.1 = some .int) (hfl : f < fs.length) (hd : decode cc pc = .ok (.putfield index, 3)) (ws1 : va_W) (hw : ws.set q0 (a, .inr (ci, fs.set f (.int (iI x)))) = ws1) (k : V p l e R s m args below meth c D A nL cells slots Q (pc + 3) lv st ws1) : V p l e R s m args below meth c D A nL cells slots Q pc lv (.int (iI x) :: .ref a :: st) ws := by
  obtain ⟨hx, hb, hml, hown, hts, hK, hA, hlk, hE⟩ := hc
  intro H locs ls hl hP hD hS
  subst hw
  exact va_put hx hb hts hin ty0 hty hnm hown hK hP hD hS q0 he hcl f hf (hts _ hlink) (fun _ h9 => h9) hfin hde rfl rfl hfl hd (fun H1 locs1 hP1 hD1 hS1 => k H1 locs1 ls hl hP1 hD1 hS1)
theorem V_putz (hc : Cx p R s m args meth c D t A nL cc Ts own) {C : String} {T : u_T} {N ci index a : Nat} (hin : ∀ w ∈ u_ws C T N, w ∈ Ts) (q0 : Nat) {fs : List Value} (he : ws[q0]? = some (a, .inr (ci, fs))) (hcl : vwCl[ci]? = some (C, T, N)) (f : Nat) (hf : f < N) (hlink : Cond.fieldLink own index (T f).1 (T f).2.1 (T f).2.2.1 ∈ Ts) (ty0 : Nat → FieldType) (hty : ∀ k, k < N → parseFieldDescriptor (T k).2.2.1 = some (ty0 k)) (hnm : ∀ a, a < N → ∀ b, b < N → a ≠ b → (T a).2.1 ≠ (T b).2.1) {x : Int} {X : Prop} (hv : (x = 0 ∨ x = 1) ∧ X) (hfin : (T f).2.2.2 = false) (hde : parseFieldDescriptor (T f).2.2.1 = some .boolean) (hfl : f < fs.length) (hd : decode cc pc = .ok (.putfield index, 3)) (ws1 : va_W) (hw : ws.set q0 (a, .inr (ci, fs.set f (.int (iI x)))) = ws1) (k : X → V p l e R s m args below meth c D A nL cells slots Q (pc + 3) lv st ws1) : V p l e R s m args below meth c D A nL cells slots Q pc lv (.int (iI x) :: .ref a :: st) ws := by
  obtain ⟨hx, hb, hml, hown, hts, hK, hA, hlk, hE⟩ := hc
  intro H locs ls hl hP hD hS
  subst hw
  exact va_put hx hb hts hin ty0 hty hnm hown hK hP hD hS q0 he hcl f hf (hts _ hlink) (fun _ h9 => h9) hfin hde (iI_b hv.1).1 (iI_b hv.1).2.1 hfl hd (fun H1 locs1 hP1 hD1 hS1 => k hv.2 H1 locs1 ls hl hP1 hD1 hS1)
theorem V_iald (hc : Cx p R s m args meth c D t A nL cc Ts own) (q0 : Nat) {a n : Nat} {f : Nat → Int} (ha : ws[q0]? = some (a, .inl (t 0, n, .inl (iA f)))) (hn : n < 2147483648) {i : Int} {X : Prop} (hv : (0 ≤ i ∧ i < n) ∧ X) (hd : decode cc pc = .ok (.iaload, 1)) (k : X → V p l e R s m args below meth c D A nL cells slots Q (pc + 1) lv (.int (iI (f i.toNat)) :: st) ws) : V p l e R s m args below meth c D A nL cells slots Q pc lv (.int (iI i) :: .ref a :: st) ws := by
  obtain ⟨hx, hb, hml, hown, hts, hK, hA, hlk, hE⟩ := hc
  intro H locs ls hl hP hD hS
  refine va_iald hx hb hK hP q0 0 ha rfl (iI_in hn hv.1.1 hv.1.2) hd ?_
  rw [iI_cl (by omega)]
  exact k hv.2 H locs ls hl hP hD hS
theorem V_zald (hc : Cx p R s m args meth c D t A nL cc Ts own) (q0 : Nat) {a n : Nat} {f : Nat → Int} (ha : ws[q0]? = some (a, .inl (t 1, n, .inl (iA f)))) (hn : n < 2147483648) {i : Int} {X : Prop} (hv : (0 ≤ i ∧ i < n) ∧ X) (hd : decode cc pc = .ok (.baload, 1)) (k : X → V p l e R s m args below meth c D A nL cells slots Q (pc + 1) lv (.int (iI (f i.toNat)) :: st) ws) : V p l e R s m args below meth c D A nL cells slots Q pc lv (.int (iI i) :: .ref a :: st) ws := by
  obtain ⟨hx, hb, hml, hown, hts, hK, hA, hlk, hE⟩ := hc
  intro H locs ls hl hP hD hS
  refine va_zald hx hb hK hP q0 1 ha rfl (iI_in hn hv.1.1 hv.1.2) hd ?_
  rw [iI_cl (by omega)]
  exact k hv.2 H locs ls hl hP hD hS
theorem V_cald (hc : Cx p R s m args meth c D t A nL cc Ts own) (q0 : Nat) {a n : Nat} {f : Nat → Int} (ha : ws[q0]? = some (a, .inl (t 2, n, .inl (iA f)))) (hn : n < 2147483648) {i : Int} {X : Prop} (hv : (0 ≤ i ∧ i < n) ∧ X) (hd : decode cc pc = .ok (.caload, 1)) (k : X → V p l e R s m args below meth c D A nL cells slots Q (pc + 1) lv (.int (iI (f i.toNat)) :: st) ws) : V p l e R s m args below meth c D A nL cells slots Q pc lv (.int (iI i) :: .ref a :: st) ws := by
  obtain ⟨hx, hb, hml, hown, hts, hK, hA, hlk, hE⟩ := hc
  intro H locs ls hl hP hD hS
  refine va_cald hx hb hK hP q0 2 ha rfl (iI_in hn hv.1.1 hv.1.2) hd ?_
  rw [iI_cl (by omega)]
  exact k hv.2 H locs ls hl hP hD hS
theorem V_iast (hc : Cx p R s m args meth c D t A nL cc Ts own) (q0 : Nat) {a n : Nat} {f : Nat → Int} (ha : ws[q0]? = some (a, .inl (t 0, n, .inl (iA f)))) (hn : n < 2147483648) {i x : Int} {X : Prop} (hv : (0 ≤ i ∧ i < n) ∧ X) (hd : decode cc pc = .ok (.iastore, 1)) (ws1 : va_W) (hw : ws.set q0 (a, .inl (t 0, n, .inl (iA (uI f i.toNat x)))) = ws1) (k : X → V p l e R s m args below meth c D A nL cells slots Q (pc + 1) lv st ws1) : V p l e R s m args below meth c D A nL cells slots Q pc lv (.int (iI x) :: .int (iI i) :: .ref a :: st) ws := by
  obtain ⟨hx, hb, hml, hown, hts, hK, hA, hlk, hE⟩ := hc
  intro H locs ls hl hP hD hS
  subst hw
  refine va_iast hx hb hK hP hD hS q0 0 ha rfl (iI_in hn hv.1.1 hv.1.2) hd (fun H1 locs1 hP1 hD1 hS1 => ?_)
  · rw [iI_cl (by omega), iA_upd] at hP1 hD1
    exact k hv.2 H1 locs1 ls hl hP1 hD1 hS1
theorem V_zast (hc : Cx p R s m args meth c D t A nL cc Ts own) (q0 : Nat) {a n : Nat} {f : Nat → Int} (ha : ws[q0]? = some (a, .inl (t 1, n, .inl (iA f)))) (hn : n < 2147483648) {i x : Int} {X : Prop} (hv : (0 ≤ i ∧ i < n) ∧ (x = 0 ∨ x = 1) ∧ X) (hd : decode cc pc = .ok (.bastore, 1)) (ws1 : va_W) (hw : ws.set q0 (a, .inl (t 1, n, .inl (iA (uI f i.toNat x)))) = ws1) (k : X → V p l e R s m args below meth c D A nL cells slots Q (pc + 1) lv st ws1) : V p l e R s m args below meth c D A nL cells slots Q pc lv (.int (iI x) :: .int (iI i) :: .ref a :: st) ws := by
  obtain ⟨hx, hb, hml, hown, hts, hK, hA, hlk, hE⟩ := hc
  intro H locs ls hl hP hD hS
  subst hw
  refine va_zast hx hb hK hP hD hS q0 1 ha rfl (iI_in hn hv.1.1 hv.1.2) hd (fun H1 locs1 hP1 hD1 hS1 => ?_)
  · rw [(iI_b hv.2.1).2.2] at hP1 hD1
    rw [iI_cl (by omega), iA_upd] at hP1 hD1
    exact k hv.2.2 H1 locs1 ls hl hP1 hD1 hS1
theorem V_cast (hc : Cx p R s m args meth c D t A nL cc Ts own) (q0 : Nat) {a n : Nat} {f : Nat → Int} (ha : ws[q0]? = some (a, .inl (t 2, n, .inl (iA f)))) (hn : n < 2147483648) {i x : Int} {X : Prop} (hv : (0 ≤ i ∧ i < n) ∧ (0 ≤ x ∧ x ≤ 65535) ∧ X) (hd : decode cc pc = .ok (.castore, 1)) (ws1 : va_W) (hw : ws.set q0 (a, .inl (t 2, n, .inl (iA (uI f i.toNat x)))) = ws1) (k : X → V p l e R s m args below meth c D A nL cells slots Q (pc + 1) lv st ws1) : V p l e R s m args below meth c D A nL cells slots Q pc lv (.int (iI x) :: .int (iI i) :: .ref a :: st) ws := by
  obtain ⟨hx, hb, hml, hown, hts, hK, hA, hlk, hE⟩ := hc
  intro H locs ls hl hP hD hS
  subst hw
  refine va_cast hx hb hK hP hD hS q0 2 ha rfl (iI_in hn hv.1.1 hv.1.2) hd (fun H1 locs1 hP1 hD1 hS1 => ?_)
  · rw [(iI_c hv.2.1).2] at hP1 hD1
    rw [iI_cl (by omega), iA_upd] at hP1 hD1
    exact k hv.2.2 H1 locs1 ls hl hP1 hD1 hS1
theorem V_alen (hc : Cx p R s m args meth c D t A nL cc Ts own) (q0 : Nat) {a n : Nat} {ti : Nat} {ty : FieldType} {x : (Nat → Int32) ⊕ (Nat → Int64) ⊕ (Nat → UInt32) ⊕ (Nat → UInt64) ⊕ (Nat → Option Nat)} {cA : ClassId} (ha : ws[q0]? = some (a, .inl (cA, n, x))) (ht : (tyL t)[ti]? = some (cA, ty)) {v : Int} (hv : iI v = Int32.ofNat n) (hd : decode cc pc = .ok (.arraylength, 1)) (k : V p l e R s m args below meth c D A nL cells slots Q (pc + 1) lv (.int (iI v) :: st) ws) : V p l e R s m args below meth c D A nL cells slots Q pc lv (.ref a :: st) ws := by
  obtain ⟨hx, hb, hml, hown, hts, hK, hA, hlk, hE⟩ := hc
  intro H locs ls hl hP hD hS
  exact va_alen hx hb hK hP q0 ti ha ht hv.symm hd (k H locs ls hl hP hD hS)
theorem V_aald (hc : Cx p R s m args meth c D t A nL cc Ts own) (q0 : Nat) {a n : Nat} {f : Nat → Option Nat} (ha : ws[q0]? = some (a, .inl (t 3, n, .inr (.inr (.inr (.inr f)))))) (hn : n < 2147483648) {i : Int} {b : Nat} {X : Prop} (hv : (0 ≤ i ∧ i < n) ∧ X) (hf : f i.toNat = some b) (hd : decode cc pc = .ok (.aaload, 1)) (k : X → V p l e R s m args below meth c D A nL cells slots Q (pc + 1) lv (.ref b :: st) ws) : V p l e R s m args below meth c D A nL cells slots Q pc lv (.int (iI i) :: .ref a :: st) ws := by
  obtain ⟨hx, hb, hml, hown, hts, hK, hA, hlk, hE⟩ := hc
  intro H locs ls hl hP hD hS
  refine va_aldq hx hb hK hP q0 3 ha rfl (iI_in hn hv.1.1 hv.1.2) hd ?_
  rw [iI_cl (by omega), hf]
  exact k hv.2 H locs ls hl hP hD hS
theorem V_aast (hc : Cx p R s m args meth c D t A nL cc Ts own) (q0 qk : Nat) {a n b : Nat} {vs : List Value} {f : Nat → Option Nat} (ha : ws[q0]? = some (a, .inl (t 3, n, .inr (.inr (.inr (.inr f)))))) (hb0 : ws[qk]? = some (b, .inr (2, vs))) (hn : n < 2147483648) {i : Int} {X : Prop} (hv : (0 ≤ i ∧ i < n) ∧ X) (hd : decode cc pc = .ok (.aastore, 1)) (ws1 : va_W) (hw : ws.set q0 (a, .inl (t 3, n, .inr (.inr (.inr (.inr (va_up f i.toNat (some b))))))) = ws1) (k : X → V p l e R s m args below meth c D A nL cells slots Q (pc + 1) lv st ws1) : V p l e R s m args below meth c D A nL cells slots Q pc lv (.ref b :: .int (iI i) :: .ref a :: st) ws := by
  obtain ⟨hx, hb, hml, hown, hts, hK, hA, hlk, hE⟩ := hc
  intro H locs ls hl hP hD hS
  subst hw
  refine va_astq (r := (RX2, TX2, 4)) hx hb hK hP hD hS q0 3 qk 2 ha rfl hb0 rfl (iI_in hn hv.1.1 hv.1.2) hd (fun H1 locs1 hP1 hD1 hS1 => ?_)
  rw [iI_cl (by omega)] at hP1 hD1
  exact k hv.2 H1 locs1 ls hl hP1 hD1 hS1
theorem V_copyi (hc : Cx p R s m args meth c D t A nL cc Ts own) {index : Nat} (hlink : Cond.methodLink own index arraycopyName ∈ Ts) (hnat : Cond.native arraycopyName ∈ Ts) (hstat : Cond.static arraycopyName ∈ Ts) (hini : Cond.initialized "java/lang/System" ∈ Ts) (q0 q1 : Nat) {a0 a n0 n1 : Nat} {f g : Nat → Int} (ha0 : ws[q0]? = some (a0, .inl (t 0, n0, .inl (iA f)))) (ha1 : ws[q1]? = some (a, .inl (t 0, n1, .inl (iA g)))) (hn0 : n0 < 2147483648) (hn1 : n1 < 2147483648) {sp dp n : Int} {X : Prop} (hv : (0 ≤ sp ∧ 0 ≤ dp ∧ 0 ≤ n) ∧ (sp + n ≤ n0 ∧ dp + n ≤ n1) ∧ X) (hfr : 1 ≤ R.frames) (hlo : (st.map fun v => v.category).sum + (nativeFrameWords "java/lang/System" "arraycopy" 5 + 11) ≤ R.locals) (hd : decode cc pc = .ok (.invokestatic index, 3)) (ws1 : va_W) (hw : ws.set q1 (a, .inl (t 0, n1, .inl (iA (cpI f g sp.toNat dp.toNat n.toNat)))) = ws1) (k : X → V p l e R s m args below meth c D A nL cells slots Q (pc + 3) lv st ws1) : V p l e R s m args below meth c D A nL cells slots Q pc lv (.int (iI n) :: .int (iI dp) :: .ref a :: .int (iI sp) :: .ref a0 :: st) ws := by
  obtain ⟨hx, hb, hml, hown, hts, hK, hA, hlk, hE⟩ := hc
  intro H locs ls hl hP hD hS
  subst hw
  have h1 : inR sp := by omega
  have h2 : inR dp := by omega
  have h3 : inR n := by omega
  have neg : ∀ x : Int, inR x → 0 ≤ x → ¬ iI x < 0 := fun x hr h0 q => by
    rw [← iI_0, iI_lt hr (by omega)] at q
    omega
  refine va_copyi hx hb (hml.trans hl.1.symm) hown (hts _ hlink) (hts _ hnat) (hts _ hstat) (hts _ hini) hK hP hD hS q0 q1 0 0 ha0 ha1 rfl rfl rfl (neg sp h1 hv.1.1) (neg dp h2 hv.1.2.1) (neg n h3 hv.1.2.2) (by rw [iI_cl h1, iI_cl h3]; omega) (by rw [iI_cl h2, iI_cl h3]; omega) (fun i hi => rfl) hfr hlo hd (fun H1 locs1 hP1 hD1 hS1 => ?_)
  rw [iI_cl h1, iI_cl h2, iI_cl h3, iA_cpy] at hP1 hD1
  exact k hv.2.2 H1 locs1 ls hl hP1 hD1 hS1
theorem V_copyz (hc : Cx p R s m args meth c D t A nL cc Ts own) {index : Nat} (hlink : Cond.methodLink own index arraycopyName ∈ Ts) (hnat : Cond.native arraycopyName ∈ Ts) (hstat : Cond.static arraycopyName ∈ Ts) (hini : Cond.initialized "java/lang/System" ∈ Ts) (q0 q1 : Nat) {a0 a n0 n1 : Nat} {f g : Nat → Int} (ha0 : ws[q0]? = some (a0, .inl (t 1, n0, .inl (iA f)))) (ha1 : ws[q1]? = some (a, .inl (t 1, n1, .inl (iA g)))) (hn0 : n0 < 2147483648) (hn1 : n1 < 2147483648) {sp dp n : Int} {X : Prop} (hv : (0 ≤ sp ∧ 0 ≤ dp ∧ 0 ≤ n) ∧ (sp + n ≤ n0 ∧ dp + n ≤ n1) ∧ (∀ i : Nat, i < n.toNat → f (sp.toNat + i) = 0 ∨ f (sp.toNat + i) = 1) ∧ X) (hfr : 1 ≤ R.frames) (hlo : (st.map fun v => v.category).sum + (nativeFrameWords "java/lang/System" "arraycopy" 5 + 11) ≤ R.locals) (hd : decode cc pc = .ok (.invokestatic index, 3)) (ws1 : va_W) (hw : ws.set q1 (a, .inl (t 1, n1, .inl (iA (cpI f g sp.toNat dp.toNat n.toNat)))) = ws1) (k : X → V p l e R s m args below meth c D A nL cells slots Q (pc + 3) lv st ws1) : V p l e R s m args below meth c D A nL cells slots Q pc lv (.int (iI n) :: .int (iI dp) :: .ref a :: .int (iI sp) :: .ref a0 :: st) ws := by
  obtain ⟨hx, hb, hml, hown, hts, hK, hA, hlk, hE⟩ := hc
  intro H locs ls hl hP hD hS
  subst hw
  have h1 : inR sp := by omega
  have h2 : inR dp := by omega
  have h3 : inR n := by omega
  have neg : ∀ x : Int, inR x → 0 ≤ x → ¬ iI x < 0 := fun x hr h0 q => by
    rw [← iI_0, iI_lt hr (by omega)] at q
    omega
  refine va_copyi hx hb (hml.trans hl.1.symm) hown (hts _ hlink) (hts _ hnat) (hts _ hstat) (hts _ hini) hK hP hD hS q0 q1 1 1 ha0 ha1 rfl rfl rfl (neg sp h1 hv.1.1) (neg dp h2 hv.1.2.1) (neg n h3 hv.1.2.2) (by rw [iI_cl h1, iI_cl h3]; omega) (by rw [iI_cl h2, iI_cl h3]; omega) (fun i hi => by rw [iI_cl h3] at hi; rw [iI_cl h1]; exact (iI_b (hv.2.2.1 i hi)).2.1) hfr hlo hd (fun H1 locs1 hP1 hD1 hS1 => ?_)
  rw [iI_cl h1, iI_cl h2, iI_cl h3, iA_cpy] at hP1 hD1
  exact k hv.2.2.2 H1 locs1 ls hl hP1 hD1 hS1
theorem V_max (hc : Cx p R s m args meth c D t A nL cc Ts own) {index : Nat} (hlink : Cond.methodLink own index Lib.Math.max.name ∈ Ts) (hstat : Cond.static Lib.Math.max.name ∈ Ts) (hini : Cond.initialized "java/lang/Math" ∈ Ts) (hcode : Cond.code Lib.Math.max.name Lib.Math.max.code 2 (some .int) ∈ Ts) (hfr : 1 ≤ R.frames) (hlo : (st.map fun v => v.category).sum + 13 ≤ R.locals) (hcs : cells ≤ R.cells ∧ slots ≤ R.slots) {a b : Int} {X : Prop} (hv : inR a ∧ inR b ∧ X) (hd : decode cc pc = .ok (.invokestatic index, 3)) (k : X → V p l e R s m args below meth c D A nL cells slots Q (pc + 3) lv (.int (iI (max a b)) :: st) ws) : V p l e R s m args below meth c D A nL cells slots Q pc lv (.int (iI b) :: .int (iI a) :: st) ws := by
  obtain ⟨hx, hb, hml, hown, hts, hK, hA, hlk, hE⟩ := hc
  intro H locs ls hl hP hD hS
  obtain ⟨ha, hb2, hX⟩ := hv
  refine va_mmax hx hb (hml.trans hl.1.symm) hown (hts _ hlink) (hts _ hstat) (hts _ hini) (hts _ hcode) hfr hlo hcs.1 hcs.2 hd ?_
  have e9 : (if iI a < iI b then iI b else iI a) = iI (max a b) := by
    by_cases h : a < b
    · rw [if_pos ((iI_lt ha hb2).mpr h), Int.max_eq_right (Int.le_of_lt h)]
    · rw [if_neg (fun q => h ((iI_lt ha hb2).mp q)), Int.max_eq_left (by omega)]
  rw [e9]
  exact k hX H locs ls hl hP hD hS
theorem V_perm {ws1 : va_W} (hp : ws.Perm ws1) (k : V p l e R s m args below meth c D A nL cells slots Q pc lv st ws1) : V p l e R s m args below meth c D A nL cells slots Q pc lv st ws := fun H locs ls hl hP hD hS => k H locs ls hl (hP.pm hp) (hD.pm hp) hS
theorem V_lv (ks : List Nat) (lv1 : List (Nat × Value)) (hl1 : lv_pick lv ks = lv1) (k : V p l e R s m args below meth c D A nL cells slots Q pc lv1 st ws) : V p l e R s m args below meth c D A nL cells slots Q pc lv st ws := fun H locs ls hl hP hD hS => k H locs ls (lv_sub hl ks hl1) hP hD hS
theorem V_ws (ws1 : va_W) (h : ws = ws1) (k : V p l e R s m args below meth c D A nL cells slots Q pc lv st ws1) : V p l e R s m args below meth c D A nL cells slots Q pc lv st ws := h ▸ k
theorem V_st (st1 : List Value) (h : st = st1) (k : V p l e R s m args below meth c D A nL cells slots Q pc lv st1 ws) : V p l e R s m args below meth c D A nL cells slots Q pc lv st ws := h ▸ k
theorem V_widen {k1 n1 : Nat} (h1 : cells ≤ k1) (h2 : slots ≤ n1) (k : V p l e R s m args below meth c D A nL k1 n1 Q pc lv st ws) : V p l e R s m args below meth c D A nL cells slots Q pc lv st ws := fun H locs ls hl hP hD hS => W.widen h1 h2 (k H locs ls hl hP hD hS)
/-! contracts -/
def exN : Nat → String := fun k => match k with | 0 => "java/lang/IllegalArgumentException" | 1 => "java/lang/IllegalStateException" | _ => "java/lang/IndexOutOfBoundsException"
def PcE (D : va_G) (t : Nat → ClassId) (av : List Value) (W0 : va_W) (sz : Nat) : Array Value → State → Prop := va_Pc av (fun U => U.heap.size = sz ∧ va_P D vwCl W0 U.heap ∧ va_K D vwCl (tyL t) U ∧ va_D (fun _ => True) W0 ∧ Ev (va_A W0 sz) U U.heap)
abbrev QI (D : va_G) (A : Nat → Prop) {S : Type} (W1 : S → va_W) (post : Int → S → Prop) : Array Value → State → Outcome → State → Prop := va_Qi (fun (r : Int32) (u : S) => ∃ r' : Int, r = iI r' ∧ post r' u) (fun u T => va_P D vwCl (W1 u) T.heap ∧ va_D A (W1 u)) A
abbrev QV (D : va_G) (A : Nat → Prop) {S : Type} (W1 : S → va_W) (post : S → Prop) : Array Value → State → Outcome → State → Prop := va_Qv post (fun u T => va_P D vwCl (W1 u) T.heap ∧ va_D A (W1 u)) A
abbrev QDb (D : va_G) (A : Nat → Prop) {S : Type} (W1 : S → va_W) (post : UInt64 → S → Prop) : Array Value → State → Outcome → State → Prop := va_Qd post (fun u T => va_P D vwCl (W1 u) T.heap ∧ va_D A (W1 u)) A
abbrev QR (D : va_G) (A : Nat → Prop) {S : Type} (W1 : S → va_W) (post : Nat → S → Prop) : Array Value → State → Outcome → State → Prop := va_Qr (fun _ => True) (fun (u : S) a T => post a u ∧ va_P D vwCl (W1 u) T.heap ∧ va_D A (W1 u)) A
abbrev eqW (W0 : va_W) : va_W → Prop := fun W => W = W0
abbrev XcE (D : va_G) (A : Nat → Prop) (PX : va_W → Prop) (px : Nat → Prop) : String → State → State → Prop := vx_X px (fun E u T => E = exN u ∧ ∃ W, PX W ∧ va_P D vwCl W T.heap ∧ va_D A W) A
def MI (l : Launch) (D : va_G) (t : Nat → ClassId) (y : MethodName) (wsy : List Cond) (rm : Room) (av : List Value) (W0 : va_W) {S : Type} (W1 : S → va_W) (post : Int → S → Prop) (mc ms : Nat) : Prop := ∀ sz, Met l y wsy rm (PcE D t av W0 sz) (QI D (va_A W0 sz) W1 post) mc ms (va_A W0 sz)
def MV (l : Launch) (D : va_G) (t : Nat → ClassId) (y : MethodName) (wsy : List Cond) (rm : Room) (av : List Value) (W0 : va_W) {S : Type} (W1 : S → va_W) (post : S → Prop) (mc ms : Nat) : Prop := ∀ sz, Met l y wsy rm (PcE D t av W0 sz) (QV D (va_A W0 sz) W1 post) mc ms (va_A W0 sz)
def MD (l : Launch) (D : va_G) (t : Nat → ClassId) (y : MethodName) (wsy : List Cond) (rm : Room) (av : List Value) (W0 : va_W) {S : Type} (W1 : S → va_W) (post : UInt64 → S → Prop) (mc ms : Nat) : Prop := ∀ sz, Met l y wsy rm (PcE D t av W0 sz) (QDb D (va_A W0 sz) W1 post) mc ms (va_A W0 sz)
def MR (l : Launch) (D : va_G) (t : Nat → ClassId) (y : MethodName) (wsy : List Cond) (rm : Room) (av : List Value) (W0 : va_W) {S : Type} (W1 : S → va_W) (post : Nat → S → Prop) (mc ms : Nat) : Prop := ∀ sz, Met l y wsy rm (PcE D t av W0 sz) (QR D (va_A W0 sz) W1 post) mc ms (va_A W0 sz)
def XI (l : Launch) (D : va_G) (t : Nat → ClassId) (y : MethodName) (wsy : List Cond) (rm : Room) (av : List Value) (W0 : va_W) {S : Type} (W1 : S → va_W) (post : Int → S → Prop) (PX : va_W → Prop) (px : Nat → Prop) (mc ms : Nat) : Prop := ∀ sz, vx_Met l y wsy rm (PcE D t av W0 sz) (QI D (va_A W0 sz) W1 post) (XcE D (va_A W0 sz) PX px) mc ms (va_A W0 sz)
def XV (l : Launch) (D : va_G) (t : Nat → ClassId) (y : MethodName) (wsy : List Cond) (rm : Room) (av : List Value) (W0 : va_W) {S : Type} (W1 : S → va_W) (post : S → Prop) (PX : va_W → Prop) (px : Nat → Prop) (mc ms : Nat) : Prop := ∀ sz, vx_Met l y wsy rm (PcE D t av W0 sz) (QV D (va_A W0 sz) W1 post) (XcE D (va_A W0 sz) PX px) mc ms (va_A W0 sz)
theorem PcE.blind {D : va_G} {t : Nat → ClassId} {av : List Value} {W0 : va_W} {sz : Nat} : FrameBlind (PcE D t av W0 sz) := by
  intro a U g mk q
  obtain ⟨q0, q1, qP, qK, qD, qE⟩ := q
  exact ⟨q0, q1, qP, va_K.moved (u := U) (U := U.calling g mk a) (Vm.Alike.refl U.vm) qK, qD, qE.same rfl⟩
theorem va_Pm {D : va_G} {cl : List vw_C} {ws ws1 : va_W} {H : Heap} (hP : va_P D cl ws H) (is : List Nat) (hs : is.map (fun i => ws[i]?) = ws1.map some) : va_P D cl ws1 H := by
  intro j q hq
  have h1 : (is.map (fun i => ws[i]?))[j]? = some (some q) := by rw [hs, List.getElem?_map, hq]; rfl
  rw [List.getElem?_map] at h1
  cases hi : is[j]? with
  | none => rw [hi] at h1; cases h1
  | some i => rw [hi] at h1; exact hP i q (Option.some.inj h1)
theorem PcE.at (hc : Cx p R s m args meth c D t A nL cc Ts own) {H : Heap} {locs : List Loc} (hP : va_P D vwCl ws H) (hD : va_D A ws) (hS : va_S A s.heap H locs) {wc wr : va_W} (hp : ws.Perm (wc ++ wr)) (av : List Value) : ∀ U : State, U.heap = H → s.WarmedH U.vm → PcE D t av wc H.size av.toArray U := by
  obtain ⟨hx, hb, hml, hown, hts, hK, hA, hlk, hE⟩ := hc
  intro U hU hW
  refine ⟨rfl, by rw [hU], ?_, va_K.moved hW.alike hK, (va_D_app.mp (hD.pm hp)).1.weaken (fun _ _ _ _ => trivial), ?_⟩
  · rw [hU]
    exact (va_P_app.mp (hP.pm hp)).1
  · exact hE.pass hS (fz_free hD hS hA hp) hW hU
theorem M_ofi {l : Launch} {D : va_G} {t : Nat → ClassId} {y : MethodName} {wsy wsy1 : List Cond} {rm : Room} {av : List Value} {W0 : va_W} {S : Type} {W1 : S → va_W} {post : Int → S → Prop} {mc ms nL : Nat} {cc : ByteArray} (hy : plainName y.cls = true) (hw : wsy = Cond.code y cc nL (some .int) :: wsy1) (hlen : (lg_sl av).length ≤ nL)
    (body : ∀ (p : Program) (e : Env) (s : State) (m : MethodId) (args : Array Value) (below : List Frame) (meth : Method) (c : Code) (A : Nat → Prop), Cx p rm s m args meth c D t A nL cc wsy y.cls → meth.sig.returnType = (some .int) → V p l e rm s m args below meth c D A nL 0 0 (MQ below (QI D A W1 post) args s mc ms A) 0 (lv_args 0 av) [] W0) : MI l D t y wsy rm av W0 W1 post mc ms := by
  intro sz
  refine Met.ofW (cc := cc) (maxL := nL) (ret := (some .int)) hy hw ?_
  intro p e s m args below meth c s₁ B hml hv
  obtain ⟨rfl, hsz, hP, hK, hD0, hE⟩ := hv
  have hts := atoms_spec (ws := wsy) B.pre
  subst hsz
  have hl := lv_entry av hlen
  rw [lg_entry_eq]
  exact body p e s m _ below meth c (va_A W0 s.heap.size) ⟨B.exec, B.bytes, hml, findClass_of_methodNamed B.named, hts, hK, fun q h => Or.inr h, B.notSynchronized, hE⟩ B.returns s.heap [] _ hl hP hD0.self va_S.rf
theorem M_ofz {l : Launch} {D : va_G} {t : Nat → ClassId} {y : MethodName} {wsy wsy1 : List Cond} {rm : Room} {av : List Value} {W0 : va_W} {S : Type} {W1 : S → va_W} {post : Int → S → Prop} {mc ms nL : Nat} {cc : ByteArray} (hy : plainName y.cls = true) (hw : wsy = Cond.code y cc nL (some .boolean) :: wsy1) (hlen : (lg_sl av).length ≤ nL)
    (body : ∀ (p : Program) (e : Env) (s : State) (m : MethodId) (args : Array Value) (below : List Frame) (meth : Method) (c : Code) (A : Nat → Prop), Cx p rm s m args meth c D t A nL cc wsy y.cls → meth.sig.returnType = (some .boolean) → V p l e rm s m args below meth c D A nL 0 0 (MQ below (QI D A W1 post) args s mc ms A) 0 (lv_args 0 av) [] W0) : MI l D t y wsy rm av W0 W1 post mc ms := by
  intro sz
  refine Met.ofW (cc := cc) (maxL := nL) (ret := (some .boolean)) hy hw ?_
  intro p e s m args below meth c s₁ B hml hv
  obtain ⟨rfl, hsz, hP, hK, hD0, hE⟩ := hv
  have hts := atoms_spec (ws := wsy) B.pre
  subst hsz
  have hl := lv_entry av hlen
  rw [lg_entry_eq]
  exact body p e s m _ below meth c (va_A W0 s.heap.size) ⟨B.exec, B.bytes, hml, findClass_of_methodNamed B.named, hts, hK, fun q h => Or.inr h, B.notSynchronized, hE⟩ B.returns s.heap [] _ hl hP hD0.self va_S.rf
theorem M_ofv {l : Launch} {D : va_G} {t : Nat → ClassId} {y : MethodName} {wsy wsy1 : List Cond} {rm : Room} {av : List Value} {W0 : va_W} {S : Type} {W1 : S → va_W} {post : S → Prop} {mc ms nL : Nat} {cc : ByteArray} (hy : plainName y.cls = true) (hw : wsy = Cond.code y cc nL none :: wsy1) (hlen : (lg_sl av).length ≤ nL)
    (body : ∀ (p : Program) (e : Env) (s : State) (m : MethodId) (args : Array Value) (below : List Frame) (meth : Method) (c : Code) (A : Nat → Prop), Cx p rm s m args meth c D t A nL cc wsy y.cls → meth.sig.returnType = none → V p l e rm s m args below meth c D A nL 0 0 (MQ below (QV D A W1 post) args s mc ms A) 0 (lv_args 0 av) [] W0) : MV l D t y wsy rm av W0 W1 post mc ms := by
  intro sz
  refine Met.ofW (cc := cc) (maxL := nL) (ret := none) hy hw ?_
  intro p e s m args below meth c s₁ B hml hv
  obtain ⟨rfl, hsz, hP, hK, hD0, hE⟩ := hv
  have hts := atoms_spec (ws := wsy) B.pre
  subst hsz
  have hl := lv_entry av hlen
  rw [lg_entry_eq]
  exact body p e s m _ below meth c (va_A W0 s.heap.size) ⟨B.exec, B.bytes, hml, findClass_of_methodNamed B.named, hts, hK, fun q h => Or.inr h, B.notSynchronized, hE⟩ B.returns s.heap [] _ hl hP hD0.self va_S.rf
theorem M_ofd {l : Launch} {D : va_G} {t : Nat → ClassId} {y : MethodName} {wsy wsy1 : List Cond} {rm : Room} {av : List Value} {W0 : va_W} {S : Type} {W1 : S → va_W} {post : UInt64 → S → Prop} {mc ms nL : Nat} {cc : ByteArray} (hy : plainName y.cls = true) (hw : wsy = Cond.code y cc nL (some .double) :: wsy1) (hlen : (lg_sl av).length ≤ nL)
    (body : ∀ (p : Program) (e : Env) (s : State) (m : MethodId) (args : Array Value) (below : List Frame) (meth : Method) (c : Code) (A : Nat → Prop), Cx p rm s m args meth c D t A nL cc wsy y.cls → meth.sig.returnType = (some .double) → V p l e rm s m args below meth c D A nL 0 0 (MQ below (QDb D A W1 post) args s mc ms A) 0 (lv_args 0 av) [] W0) : MD l D t y wsy rm av W0 W1 post mc ms := by
  intro sz
  refine Met.ofW (cc := cc) (maxL := nL) (ret := (some .double)) hy hw ?_
  intro p e s m args below meth c s₁ B hml hv
  obtain ⟨rfl, hsz, hP, hK, hD0, hE⟩ := hv
  have hts := atoms_spec (ws := wsy) B.pre
  subst hsz
  have hl := lv_entry av hlen
  rw [lg_entry_eq]
  exact body p e s m _ below meth c (va_A W0 s.heap.size) ⟨B.exec, B.bytes, hml, findClass_of_methodNamed B.named, hts, hK, fun q h => Or.inr h, B.notSynchronized, hE⟩ B.returns s.heap [] _ hl hP hD0.self va_S.rf
theorem M_ofr {l : Launch} {D : va_G} {t : Nat → ClassId} {y : MethodName} {wsy wsy1 : List Cond} {rm : Room} {av : List Value} {W0 : va_W} {S : Type} {W1 : S → va_W} {post : Nat → S → Prop} {mc ms nL : Nat} {cc : ByteArray} {rt : FieldType} (hy : plainName y.cls = true) (hw : wsy = Cond.code y cc nL (some rt) :: wsy1) (hlen : (lg_sl av).length ≤ nL)
    (body : ∀ (p : Program) (e : Env) (s : State) (m : MethodId) (args : Array Value) (below : List Frame) (meth : Method) (c : Code) (A : Nat → Prop), Cx p rm s m args meth c D t A nL cc wsy y.cls → meth.sig.returnType = some rt → V p l e rm s m args below meth c D A nL 0 0 (MQ below (QR D A W1 post) args s mc ms A) 0 (lv_args 0 av) [] W0) : MR l D t y wsy rm av W0 W1 post mc ms := by
  intro sz
  refine Met.ofW (cc := cc) (maxL := nL) (ret := (some rt)) hy hw ?_
  intro p e s m args below meth c s₁ B hml hv
  obtain ⟨rfl, hsz, hP, hK, hD0, hE⟩ := hv
  have hts := atoms_spec (ws := wsy) B.pre
  subst hsz
  have hl := lv_entry av hlen
  rw [lg_entry_eq]
  exact body p e s m _ below meth c (va_A W0 s.heap.size) ⟨B.exec, B.bytes, hml, findClass_of_methodNamed B.named, hts, hK, fun q h => Or.inr h, B.notSynchronized, hE⟩ B.returns s.heap [] _ hl hP hD0.self va_S.rf
theorem V_rret (hc : Cx p R s m args meth c D t A nL cc Ts own) {rt : FieldType} (hr : meth.sig.returnType = some rt) (hrt : (∃ n, rt = .object n) ∨ ∃ t, rt = .array t) {S : Type} {W1 : S → va_W} {post : Nat → S → Prop} {r : Nat} (u : S) (hp : post r u) (hw : ws = W1 u) (hd : decode cc pc = .ok (.areturn, 1)) : V p l e R s m args below meth c D A nL cells slots (MQ below (QR D A W1 post) args s cells slots A) pc lv [.ref r] ws := by
  obtain ⟨hx, hb, hml, hown, hts, hK, hA, hlk, hE⟩ := hc
  intro H locs ls hl hP hD hS
  subst hw
  exact W.aret (v := .ref r) hx hb hr hrt (Or.inr ⟨_, rfl⟩) (fun t ht hW => ⟨⟨u, r, rfl, trivial, hp, by rw [ht]; exact hP, hD⟩, hS.F ht⟩) hS.2.2 hd hlk
theorem X_ofi {l : Launch} {D : va_G} {t : Nat → ClassId} {y : MethodName} {wsy wsy1 : List Cond} {rm : Room} {av : List Value} {W0 : va_W} {S : Type} {W1 : S → va_W} {post : Int → S → Prop} {PX : va_W → Prop} {px : Nat → Prop} {mc ms nL : Nat} {cc : ByteArray} (hy : plainName y.cls = true) (hw : wsy = Cond.code y cc nL (some .int) :: wsy1) (hlen : (lg_sl av).length ≤ nL)
    (body : ∀ (p : Program) (e : Env) (s : State) (m : MethodId) (args : Array Value) (below : List Frame) (meth : Method) (c : Code) (A : Nat → Prop), Cx p rm s m args meth c D t A nL cc wsy y.cls → meth.sig.returnType = (some .int) → (∀ x ∈ c.exceptionTable.toList, False) → V p l e rm s m args below meth c D A nL 0 0 (vx_MQ below (QI D A W1 post) (XcE D A PX px) args s mc ms A) 0 (lv_args 0 av) [] W0) : XI l D t y wsy rm av W0 W1 post PX px mc ms := by
  intro sz
  refine vx_ofW (cc := cc) (maxL := nL) (ret := (some .int)) hy hw ?_
  intro p e s m args below meth c s₁ B hml hxt hv
  obtain ⟨rfl, hsz, hP, hK, hD0, hE⟩ := hv
  have hts := atoms_spec (ws := wsy) B.pre
  subst hsz
  have hl := lv_entry av hlen
  rw [lg_entry_eq]
  exact body p e s m _ below meth c (va_A W0 s.heap.size) ⟨B.exec, B.bytes, hml, findClass_of_methodNamed B.named, hts, hK, fun q h => Or.inr h, B.notSynchronized, hE⟩ B.returns hxt s.heap [] _ hl hP hD0.self va_S.rf
theorem X_ofz {l : Launch} {D : va_G} {t : Nat → ClassId} {y : MethodName} {wsy wsy1 : List Cond} {rm : Room} {av : List Value} {W0 : va_W} {S : Type} {W1 : S → va_W} {post : Int → S → Prop} {PX : va_W → Prop} {px : Nat → Prop} {mc ms nL : Nat} {cc : ByteArray} (hy : plainName y.cls = true) (hw : wsy = Cond.code y cc nL (some .boolean) :: wsy1) (hlen : (lg_sl av).length ≤ nL)
    (body : ∀ (p : Program) (e : Env) (s : State) (m : MethodId) (args : Array Value) (below : List Frame) (meth : Method) (c : Code) (A : Nat → Prop), Cx p rm s m args meth c D t A nL cc wsy y.cls → meth.sig.returnType = (some .boolean) → (∀ x ∈ c.exceptionTable.toList, False) → V p l e rm s m args below meth c D A nL 0 0 (vx_MQ below (QI D A W1 post) (XcE D A PX px) args s mc ms A) 0 (lv_args 0 av) [] W0) : XI l D t y wsy rm av W0 W1 post PX px mc ms := by
  intro sz
  refine vx_ofW (cc := cc) (maxL := nL) (ret := (some .boolean)) hy hw ?_
  intro p e s m args below meth c s₁ B hml hxt hv
  obtain ⟨rfl, hsz, hP, hK, hD0, hE⟩ := hv
  have hts := atoms_spec (ws := wsy) B.pre
  subst hsz
  have hl := lv_entry av hlen
  rw [lg_entry_eq]
  exact body p e s m _ below meth c (va_A W0 s.heap.size) ⟨B.exec, B.bytes, hml, findClass_of_methodNamed B.named, hts, hK, fun q h => Or.inr h, B.notSynchronized, hE⟩ B.returns hxt s.heap [] _ hl hP hD0.self va_S.rf
theorem X_ofv {l : Launch} {D : va_G} {t : Nat → ClassId} {y : MethodName} {wsy wsy1 : List Cond} {rm : Room} {av : List Value} {W0 : va_W} {S : Type} {W1 : S → va_W} {post : S → Prop} {PX : va_W → Prop} {px : Nat → Prop} {mc ms nL : Nat} {cc : ByteArray} (hy : plainName y.cls = true) (hw : wsy = Cond.code y cc nL none :: wsy1) (hlen : (lg_sl av).length ≤ nL)
    (body : ∀ (p : Program) (e : Env) (s : State) (m : MethodId) (args : Array Value) (below : List Frame) (meth : Method) (c : Code) (A : Nat → Prop), Cx p rm s m args meth c D t A nL cc wsy y.cls → meth.sig.returnType = none → (∀ x ∈ c.exceptionTable.toList, False) → V p l e rm s m args below meth c D A nL 0 0 (vx_MQ below (QV D A W1 post) (XcE D A PX px) args s mc ms A) 0 (lv_args 0 av) [] W0) : XV l D t y wsy rm av W0 W1 post PX px mc ms := by
  intro sz
  refine vx_ofW (cc := cc) (maxL := nL) (ret := none) hy hw ?_
  intro p e s m args below meth c s₁ B hml hxt hv
  obtain ⟨rfl, hsz, hP, hK, hD0, hE⟩ := hv
  have hts := atoms_spec (ws := wsy) B.pre
  subst hsz
  have hl := lv_entry av hlen
  rw [lg_entry_eq]
  exact body p e s m _ below meth c (va_A W0 s.heap.size) ⟨B.exec, B.bytes, hml, findClass_of_methodNamed B.named, hts, hK, fun q h => Or.inr h, B.notSynchronized, hE⟩ B.returns hxt s.heap [] _ hl hP hD0.self va_S.rf
theorem V_iret (hc : Cx p R s m args meth c D t A nL cc Ts own) (hr : meth.sig.returnType = some .int) {S : Type} {W1 : S → va_W} {post : Int → S → Prop} {r : Int} (u : S) (hp : post r u) (hw : ws = W1 u) (hd : decode cc pc = .ok (.ireturn, 1)) : V p l e R s m args below meth c D A nL cells slots (MQ below (QI D A W1 post) args s cells slots A) pc lv [.int (iI r)] ws := by
  obtain ⟨hx, hb, hml, hown, hts, hK, hA, hlk, hE⟩ := hc
  intro H locs ls hl hP hD hS
  subst hw
  exact W.iret (v := iI r) hx hb hr (fun t ht hW => ⟨⟨iI r, u, rfl, ⟨r, rfl, hp⟩, by rw [ht]; exact hP, hD⟩, hS.F ht⟩) hS.2.2 hd hlk
theorem V_zret (hc : Cx p R s m args meth c D t A nL cc Ts own) (hr : meth.sig.returnType = some .boolean) {S : Type} {W1 : S → va_W} {post : Int → S → Prop} {r : Int} (u : S) (hv : (r = 0 ∨ r = 1) ∧ post r u) (hw : ws = W1 u) (hd : decode cc pc = .ok (.ireturn, 1)) : V p l e R s m args below meth c D A nL cells slots (MQ below (QI D A W1 post) args s cells slots A) pc lv [.int (iI r)] ws := by
  obtain ⟨hx, hb, hml, hown, hts, hK, hA, hlk, hE⟩ := hc
  intro H locs ls hl hP hD hS
  subst hw
  exact W.zret (v := iI r) hx hb hr (iI_b hv.1).1 (fun t ht hW => ⟨⟨iI r, u, rfl, ⟨r, rfl, hv.2⟩, by rw [ht]; exact hP, hD⟩, hS.F ht⟩) hS.2.2 hd hlk
theorem V_vret (hc : Cx p R s m args meth c D t A nL cc Ts own) (hr : meth.sig.returnType = none) {S : Type} {W1 : S → va_W} {post : S → Prop} (u : S) (hp : post u) (hw : ws = W1 u) (hd : decode cc pc = .ok (.return_, 1)) : V p l e R s m args below meth c D A nL cells slots (MQ below (QV D A W1 post) args s cells slots A) pc lv [] ws := by
  obtain ⟨hx, hb, hml, hown, hts, hK, hA, hlk, hE⟩ := hc
  intro H locs ls hl hP hD hS
  subst hw
  exact W.vret hx hb hr (fun t ht hW => ⟨⟨u, rfl, hp, by rw [ht]; exact hP, hD⟩, hS.F ht⟩) hS.2.2 hd hlk
theorem V_ret {Qc : Array Value → State → Outcome → State → Prop} {XC : String → State → State → Prop} {mc ms : Nat} (k : V p l e R s m args below meth c D A nL cells slots (MQ below Qc args s mc ms A) pc lv st ws) : V p l e R s m args below meth c D A nL cells slots (vx_MQ below Qc XC args s mc ms A) pc lv st ws := fun H locs ls hl hP hD hS => vx_ret (k H locs ls hl hP hD hS)
theorem V_callVI (hc : Cx p R s m args meth c D t A nL cc Ts own) {y : MethodName} {bytes : ByteArray} {maxL mc ms index : Nat} {ret : Option FieldType} {wsy wsy1 : List Cond} {rm : Room} {As st0 : List Value} {S : Type} {W1 : S → va_W} {post : Int → S → Prop} {wc wr : va_W} (hp : ws.Perm (wc ++ wr)) {b ci : Nat} {fs : List Value} {C : String} {T : u_T} {N : Nat} (hrc : wc[0]? = some (b, .inr (ci, fs))) (hcl : vwCl[ci]? = some (C, T, N))  (hM : MI l D t y wsy rm (.ref b :: As) wc W1 post mc ms) (hst : st0 = As.reverse ++ .ref b :: st) (hg : GoodIn Ts (wsV own index C y wsy)) (hwy : wsy = Cond.code y bytes maxL ret :: wsy1) (hmr : rm.cells = mc ∧ rm.slots = ms) (hdy : y.cls = C ∧ y.cls ≠ "java/lang/invoke/MethodHandle" ∧ y.cls ≠ "java/lang/invoke/VarHandle" ∧ (parseMethodDescriptor y.desc).map (fun d => d.parameters.length) = some As.length) (hRm : rm.frames + 1 ≤ R.frames ∧ 8 + (maxL + 11) + rm.locals ≤ R.locals) (hroom : (st.map fun v => v.category).sum ≤ 8) (hd : decode cc pc = .ok (.invokevirtual index, 3)) (hfit : cells + mc ≤ R.cells ∧ slots + ms ≤ R.slots) (k : ∀ (r : Int) (u : S), post r u → V p l e R s m args below meth c D A nL (cells + mc) (slots + ms) Q (pc + 3) lv (.int (iI r) :: st) (W1 u ++ wr)) : V p l e R s m args below meth c D A nL cells slots Q pc lv st0 ws := by
  have hc0 := hc
  obtain ⟨hx, hb, hml, hown, hts, hK, hA, hlk, hE⟩ := hc
  intro H locs ls hl hP hD hS
  subst hst
  have hFc := fz_free hD hS hA hp
  have hPc := (va_P_app.mp (hP.pm hp)).1
  refine va_calli (va_runV (As := As) (rest := st) ⟨hx, hb, hml, hown, hts⟩ (hM H.size) (cwV As.length hts hg hwy hmr.1 hmr.2 hdy hRm) ⟨PcE.blind, va_recv hK hPc hcl hrc, PcE.at hc0 hP hD hS hp (.ref b :: As)⟩ rfl rfl hl.1 rfl (lv_room hroom) hd hfit) hS (fun q _ h => hFc q h) hFc (fun r u t H1 locs1 ht hvm hw hB1 hz1 hk1 hS1 => ?_)
  · obtain ⟨r', rfl, hpo⟩ := hw
    obtain ⟨hP1, hD1⟩ := hB1
    rw [ht] at hP1
    obtain ⟨hP2, hD2⟩ := fz_join hP hD hp hk1 hFc hP1 hD1
    exact k r' u hpo H1 locs1 ls hl hP2 hD2 hS1
theorem V_xcallVI (hc : Cx p R s m args meth c D t A nL cc Ts own) {y : MethodName} {bytes : ByteArray} {maxL mc ms index : Nat} {ret : Option FieldType} {wsy wsy1 : List Cond} {rm : Room} {As st0 : List Value} {S : Type} {W1 : S → va_W} {post : Int → S → Prop} {px : Nat → Prop} {wc wr : va_W} (hp : ws.Perm (wc ++ wr)) {b ci : Nat} {fs : List Value} {C : String} {T : u_T} {N : Nat} (hrc : wc[0]? = some (b, .inr (ci, fs))) (hcl : vwCl[ci]? = some (C, T, N)) {Qc : Array Value → State → Outcome → State → Prop} {px0 : Nat → Prop} {mc0 ms0 : Nat} {PX0 : va_W → Prop} (hxt : ∀ x ∈ c.exceptionTable.toList, False) (hw0 : PX0 ws) (hmc : cells + mc ≤ mc0 ∧ slots + ms ≤ ms0) (hM : XI l D t y wsy rm (.ref b :: As) wc W1 post (eqW wc) px mc ms) (hst : st0 = As.reverse ++ .ref b :: st) (hg : GoodIn Ts (wsV own index C y wsy)) (hwy : wsy = Cond.code y bytes maxL ret :: wsy1) (hmr : rm.cells = mc ∧ rm.slots = ms) (hdy : y.cls = C ∧ y.cls ≠ "java/lang/invoke/MethodHandle" ∧ y.cls ≠ "java/lang/invoke/VarHandle" ∧ (parseMethodDescriptor y.desc).map (fun d => d.parameters.length) = some As.length) (hRm : rm.frames + 1 ≤ R.frames ∧ 8 + (maxL + 11) + rm.locals ≤ R.locals) (hroom : (st.map fun v => v.category).sum ≤ 8) (hd : decode cc pc = .ok (.invokevirtual index, 3)) (hfit : cells + mc ≤ R.cells ∧ slots + ms ≤ R.slots) (kx : ∀ j, px j → px0 j) (k : ∀ (r : Int) (u : S), post r u → V p l e R s m args below meth c D A nL (cells + mc) (slots + ms) (vx_MQ below Qc (XcE D A PX0 px0) args s mc0 ms0 A) (pc + 3) lv (.int (iI r) :: st) (W1 u ++ wr)) : V p l e R s m args below meth c D A nL cells slots (vx_MQ below Qc (XcE D A PX0 px0) args s mc0 ms0 A) pc lv st0 ws := by
  have hc0 := hc
  obtain ⟨hx, hb, hml, hown, hts, hK, hA, hlk, hE⟩ := hc
  intro H locs ls hl hP hD hS
  subst hst
  have hFc := fz_free hD hS hA hp
  have hPc := (va_P_app.mp (hP.pm hp)).1
  refine vx_calli (vx_runV (As := As) (rest := st) ⟨hx, hb, hml, hown, hts⟩ (hM H.size) (cwV As.length hts hg hwy hmr.1 hmr.2 hdy hRm) ⟨PcE.blind, va_recv hK hPc hcl hrc, PcE.at hc0 hP hD hS hp (.ref b :: As)⟩ rfl rfl hl.1 rfl (lv_room hroom) hd hfit) hS (fun q _ h => hFc q h) hFc (fun q _ h => hFc q h) (fun E ce q9 u t H1 locs1 ht hvm hw hB1 hz1 hk1 hS1 hce hcv hcl1 => ?_) (fun r u t H1 locs1 ht hvm hw hB1 hz1 hk1 hS1 => ?_)
  · obtain ⟨hE1, W9, rfl, hP1, hD1⟩ := hB1
    rw [ht] at hP1
    obtain ⟨hP2, hD2⟩ := fz_join hP hD hp hk1 hFc hP1 hD1
    have hP3 := hP2.pm hp.symm
    have hD3 := hD2.pm hp.symm
    exact vx_out (fun x hx9 => absurd (hxt x hx9) id) hlk hce hcv hcl1 (fun T hT _ => ⟨u, kx u hw, ⟨hE1, _, hw0, by rw [hT]; exact hP3, hD3⟩, hS1.F hT⟩) hS1.2.2 hmc.1 hmc.2
  · obtain ⟨r', rfl, hpo⟩ := hw
    obtain ⟨hP1, hD1⟩ := hB1
    rw [ht] at hP1
    obtain ⟨hP2, hD2⟩ := fz_join hP hD hp hk1 hFc hP1 hD1
    exact k r' u hpo H1 locs1 ls hl hP2 hD2 hS1
theorem V_callSI (hc : Cx p R s m args meth c D t A nL cc Ts own) {y : MethodName} {bytes : ByteArray} {maxL mc ms index : Nat} {ret : Option FieldType} {wsy wsy1 : List Cond} {rm : Room} {As st0 : List Value} {S : Type} {W1 : S → va_W} {post : Int → S → Prop} {wc wr : va_W} (hp : ws.Perm (wc ++ wr))   (hM : MI l D t y wsy rm As wc W1 post mc ms) (hst : st0 = As.reverse ++ st) (hg : GoodIn Ts (va_wsS own index y wsy)) (hwy : wsy = Cond.code y bytes maxL ret :: wsy1) (hmr : rm.cells = mc ∧ rm.slots = ms) (hdy : y.cls ≠ "java/lang/invoke/MethodHandle" ∧ y.cls ≠ "java/lang/invoke/VarHandle" ∧ (parseMethodDescriptor y.desc).map (fun d => d.parameters.length) = some As.length) (hRm : rm.frames + 1 ≤ R.frames ∧ 8 + (maxL + 11) + rm.locals ≤ R.locals) (hroom : (st.map fun v => v.category).sum ≤ 8) (hd : decode cc pc = .ok (.invokestatic index, 3)) (hfit : cells + mc ≤ R.cells ∧ slots + ms ≤ R.slots) (k : ∀ (r : Int) (u : S), post r u → V p l e R s m args below meth c D A nL (cells + mc) (slots + ms) Q (pc + 3) lv (.int (iI r) :: st) (W1 u ++ wr)) : V p l e R s m args below meth c D A nL cells slots Q pc lv st0 ws := by
  have hc0 := hc
  obtain ⟨hx, hb, hml, hown, hts, hK, hA, hlk, hE⟩ := hc
  intro H locs ls hl hP hD hS
  subst hst
  have hFc := fz_free hD hS hA hp
  have hPc := (va_P_app.mp (hP.pm hp)).1
  refine va_calli (va_runS (As := As) (rest := st) ⟨hx, hb, hml, hown, hts⟩ (hM H.size) (va_cwS As.length hts hg hwy hmr.1 hmr.2 hdy hRm) ⟨PcE.blind, PcE.at hc0 hP hD hS hp As⟩ rfl rfl hl.1 rfl (lv_room hroom) hd hfit) hS (fun q _ h => hFc q h) hFc (fun r u t H1 locs1 ht hvm hw hB1 hz1 hk1 hS1 => ?_)
  · obtain ⟨r', rfl, hpo⟩ := hw
    obtain ⟨hP1, hD1⟩ := hB1
    rw [ht] at hP1
    obtain ⟨hP2, hD2⟩ := fz_join hP hD hp hk1 hFc hP1 hD1
    exact k r' u hpo H1 locs1 ls hl hP2 hD2 hS1
theorem V_xcallSI (hc : Cx p R s m args meth c D t A nL cc Ts own) {y : MethodName} {bytes : ByteArray} {maxL mc ms index : Nat} {ret : Option FieldType} {wsy wsy1 : List Cond} {rm : Room} {As st0 : List Value} {S : Type} {W1 : S → va_W} {post : Int → S → Prop} {px : Nat → Prop} {wc wr : va_W} (hp : ws.Perm (wc ++ wr))  {Qc : Array Value → State → Outcome → State → Prop} {px0 : Nat → Prop} {mc0 ms0 : Nat} {PX0 : va_W → Prop} (hxt : ∀ x ∈ c.exceptionTable.toList, False) (hw0 : PX0 ws) (hmc : cells + mc ≤ mc0 ∧ slots + ms ≤ ms0) (hM : XI l D t y wsy rm As wc W1 post (eqW wc) px mc ms) (hst : st0 = As.reverse ++ st) (hg : GoodIn Ts (va_wsS own index y wsy)) (hwy : wsy = Cond.code y bytes maxL ret :: wsy1) (hmr : rm.cells = mc ∧ rm.slots = ms) (hdy : y.cls ≠ "java/lang/invoke/MethodHandle" ∧ y.cls ≠ "java/lang/invoke/VarHandle" ∧ (parseMethodDescriptor y.desc).map (fun d => d.parameters.length) = some As.length) (hRm : rm.frames + 1 ≤ R.frames ∧ 8 + (maxL + 11) + rm.locals ≤ R.locals) (hroom : (st.map fun v => v.category).sum ≤ 8) (hd : decode cc pc = .ok (.invokestatic index, 3)) (hfit : cells + mc ≤ R.cells ∧ slots + ms ≤ R.slots) (kx : ∀ j, px j → px0 j) (k : ∀ (r : Int) (u : S), post r u → V p l e R s m args below meth c D A nL (cells + mc) (slots + ms) (vx_MQ below Qc (XcE D A PX0 px0) args s mc0 ms0 A) (pc + 3) lv (.int (iI r) :: st) (W1 u ++ wr)) : V p l e R s m args below meth c D A nL cells slots (vx_MQ below Qc (XcE D A PX0 px0) args s mc0 ms0 A) pc lv st0 ws := by
  have hc0 := hc
  obtain ⟨hx, hb, hml, hown, hts, hK, hA, hlk, hE⟩ := hc
  intro H locs ls hl hP hD hS
  subst hst
  have hFc := fz_free hD hS hA hp
  have hPc := (va_P_app.mp (hP.pm hp)).1
  refine vx_calli (vx_runS (As := As) (rest := st) ⟨hx, hb, hml, hown, hts⟩ (hM H.size) (va_cwS As.length hts hg hwy hmr.1 hmr.2 hdy hRm) ⟨PcE.blind, PcE.at hc0 hP hD hS hp As⟩ rfl rfl hl.1 rfl (lv_room hroom) hd hfit) hS (fun q _ h => hFc q h) hFc (fun q _ h => hFc q h) (fun E ce q9 u t H1 locs1 ht hvm hw hB1 hz1 hk1 hS1 hce hcv hcl1 => ?_) (fun r u t H1 locs1 ht hvm hw hB1 hz1 hk1 hS1 => ?_)
  · obtain ⟨hE1, W9, rfl, hP1, hD1⟩ := hB1
    rw [ht] at hP1
    obtain ⟨hP2, hD2⟩ := fz_join hP hD hp hk1 hFc hP1 hD1
    have hP3 := hP2.pm hp.symm
    have hD3 := hD2.pm hp.symm
    exact vx_out (fun x hx9 => absurd (hxt x hx9) id) hlk hce hcv hcl1 (fun T hT _ => ⟨u, kx u hw, ⟨hE1, _, hw0, by rw [hT]; exact hP3, hD3⟩, hS1.F hT⟩) hS1.2.2 hmc.1 hmc.2
  · obtain ⟨r', rfl, hpo⟩ := hw
    obtain ⟨hP1, hD1⟩ := hB1
    rw [ht] at hP1
    obtain ⟨hP2, hD2⟩ := fz_join hP hD hp hk1 hFc hP1 hD1
    exact k r' u hpo H1 locs1 ls hl hP2 hD2 hS1
theorem V_callVV (hc : Cx p R s m args meth c D t A nL cc Ts own) {y : MethodName} {bytes : ByteArray} {maxL mc ms index : Nat} {ret : Option FieldType} {wsy wsy1 : List Cond} {rm : Room} {As st0 : List Value} {S : Type} {W1 : S → va_W} {post : S → Prop} {wc wr : va_W} (hp : ws.Perm (wc ++ wr)) {b ci : Nat} {fs : List Value} {C : String} {T : u_T} {N : Nat} (hrc : wc[0]? = some (b, .inr (ci, fs))) (hcl : vwCl[ci]? = some (C, T, N))  (hM : MV l D t y wsy rm (.ref b :: As) wc W1 post mc ms) (hst : st0 = As.reverse ++ .ref b :: st) (hg : GoodIn Ts (wsV own index C y wsy)) (hwy : wsy = Cond.code y bytes maxL ret :: wsy1) (hmr : rm.cells = mc ∧ rm.slots = ms) (hdy : y.cls = C ∧ y.cls ≠ "java/lang/invoke/MethodHandle" ∧ y.cls ≠ "java/lang/invoke/VarHandle" ∧ (parseMethodDescriptor y.desc).map (fun d => d.parameters.length) = some As.length) (hRm : rm.frames + 1 ≤ R.frames ∧ 8 + (maxL + 11) + rm.locals ≤ R.locals) (hroom : (st.map fun v => v.category).sum ≤ 8) (hd : decode cc pc = .ok (.invokevirtual index, 3)) (hfit : cells + mc ≤ R.cells ∧ slots + ms ≤ R.slots) (k : ∀ u : S, post u → V p l e R s m args below meth c D A nL (cells + mc) (slots + ms) Q (pc + 3) lv st (W1 u ++ wr)) : V p l e R s m args below meth c D A nL cells slots Q pc lv st0 ws := by
  have hc0 := hc
  obtain ⟨hx, hb, hml, hown, hts, hK, hA, hlk, hE⟩ := hc
  intro H locs ls hl hP hD hS
  subst hst
  have hFc := fz_free hD hS hA hp
  have hPc := (va_P_app.mp (hP.pm hp)).1
  refine va_callv (va_runV (As := As) (rest := st) ⟨hx, hb, hml, hown, hts⟩ (hM H.size) (cwV As.length hts hg hwy hmr.1 hmr.2 hdy hRm) ⟨PcE.blind, va_recv hK hPc hcl hrc, PcE.at hc0 hP hD hS hp (.ref b :: As)⟩ rfl rfl hl.1 rfl (lv_room hroom) hd hfit) hS (fun q _ h => hFc q h) hFc (fun u t H1 locs1 ht hvm hw hB1 hz1 hk1 hS1 => ?_)
  · have hpo := hw
    obtain ⟨hP1, hD1⟩ := hB1
    rw [ht] at hP1
    obtain ⟨hP2, hD2⟩ := fz_join hP hD hp hk1 hFc hP1 hD1
    exact k u hpo H1 locs1 ls hl hP2 hD2 hS1
theorem V_xcallVV (hc : Cx p R s m args meth c D t A nL cc Ts own) {y : MethodName} {bytes : ByteArray} {maxL mc ms index : Nat} {ret : Option FieldType} {wsy wsy1 : List Cond} {rm : Room} {As st0 : List Value} {S : Type} {W1 : S → va_W} {post : S → Prop} {px : Nat → Prop} {wc wr : va_W} (hp : ws.Perm (wc ++ wr)) {b ci : Nat} {fs : List Value} {C : String} {T : u_T} {N : Nat} (hrc : wc[0]? = some (b, .inr (ci, fs))) (hcl : vwCl[ci]? = some (C, T, N)) {Qc : Array Value → State → Outcome → State → Prop} {px0 : Nat → Prop} {mc0 ms0 : Nat} {PX0 : va_W → Prop} (hxt : ∀ x ∈ c.exceptionTable.toList, False) (hw0 : PX0 ws) (hmc : cells + mc ≤ mc0 ∧ slots + ms ≤ ms0) (hM : XV l D t y wsy rm (.ref b :: As) wc W1 post (eqW wc) px mc ms) (hst : st0 = As.reverse ++ .ref b :: st) (hg : GoodIn Ts (wsV own index C y wsy)) (hwy : wsy = Cond.code y bytes maxL ret :: wsy1) (hmr : rm.cells = mc ∧ rm.slots = ms) (hdy : y.cls = C ∧ y.cls ≠ "java/lang/invoke/MethodHandle" ∧ y.cls ≠ "java/lang/invoke/VarHandle" ∧ (parseMethodDescriptor y.desc).map (fun d => d.parameters.length) = some As.length) (hRm : rm.frames + 1 ≤ R.frames ∧ 8 + (maxL + 11) + rm.locals ≤ R.locals) (hroom : (st.map fun v => v.category).sum ≤ 8) (hd : decode cc pc = .ok (.invokevirtual index, 3)) (hfit : cells + mc ≤ R.cells ∧ slots + ms ≤ R.slots) (kx : ∀ j, px j → px0 j) (k : ∀ u : S, post u → V p l e R s m args below meth c D A nL (cells + mc) (slots + ms) (vx_MQ below Qc (XcE D A PX0 px0) args s mc0 ms0 A) (pc + 3) lv st (W1 u ++ wr)) : V p l e R s m args below meth c D A nL cells slots (vx_MQ below Qc (XcE D A PX0 px0) args s mc0 ms0 A) pc lv st0 ws := by
  have hc0 := hc
  obtain ⟨hx, hb, hml, hown, hts, hK, hA, hlk, hE⟩ := hc
  intro H locs ls hl hP hD hS
  subst hst
  have hFc := fz_free hD hS hA hp
  have hPc := (va_P_app.mp (hP.pm hp)).1
  refine vx_callv (vx_runV (As := As) (rest := st) ⟨hx, hb, hml, hown, hts⟩ (hM H.size) (cwV As.length hts hg hwy hmr.1 hmr.2 hdy hRm) ⟨PcE.blind, va_recv hK hPc hcl hrc, PcE.at hc0 hP hD hS hp (.ref b :: As)⟩ rfl rfl hl.1 rfl (lv_room hroom) hd hfit) hS (fun q _ h => hFc q h) hFc (fun q _ h => hFc q h) (fun E ce q9 u t H1 locs1 ht hvm hw hB1 hz1 hk1 hS1 hce hcv hcl1 => ?_) (fun u t H1 locs1 ht hvm hw hB1 hz1 hk1 hS1 => ?_)
  · obtain ⟨hE1, W9, rfl, hP1, hD1⟩ := hB1
    rw [ht] at hP1
    obtain ⟨hP2, hD2⟩ := fz_join hP hD hp hk1 hFc hP1 hD1
    have hP3 := hP2.pm hp.symm
    have hD3 := hD2.pm hp.symm
    exact vx_out (fun x hx9 => absurd (hxt x hx9) id) hlk hce hcv hcl1 (fun T hT _ => ⟨u, kx u hw, ⟨hE1, _, hw0, by rw [hT]; exact hP3, hD3⟩, hS1.F hT⟩) hS1.2.2 hmc.1 hmc.2
  · have hpo := hw
    obtain ⟨hP1, hD1⟩ := hB1
    rw [ht] at hP1
    obtain ⟨hP2, hD2⟩ := fz_join hP hD hp hk1 hFc hP1 hD1
    exact k u hpo H1 locs1 ls hl hP2 hD2 hS1
theorem V_callSV (hc : Cx p R s m args meth c D t A nL cc Ts own) {y : MethodName} {bytes : ByteArray} {maxL mc ms index : Nat} {ret : Option FieldType} {wsy wsy1 : List Cond} {rm : Room} {As st0 : List Value} {S : Type} {W1 : S → va_W} {post : S → Prop} {wc wr : va_W} (hp : ws.Perm (wc ++ wr))   (hM : MV l D t y wsy rm As wc W1 post mc ms) (hst : st0 = As.reverse ++ st) (hg : GoodIn Ts (va_wsS own index y wsy)) (hwy : wsy = Cond.code y bytes maxL ret :: wsy1) (hmr : rm.cells = mc ∧ rm.slots = ms) (hdy : y.cls ≠ "java/lang/invoke/MethodHandle" ∧ y.cls ≠ "java/lang/invoke/VarHandle" ∧ (parseMethodDescriptor y.desc).map (fun d => d.parameters.length) = some As.length) (hRm : rm.frames + 1 ≤ R.frames ∧ 8 + (maxL + 11) + rm.locals ≤ R.locals) (hroom : (st.map fun v => v.category).sum ≤ 8) (hd : decode cc pc = .ok (.invokestatic index, 3)) (hfit : cells + mc ≤ R.cells ∧ slots + ms ≤ R.slots) (k : ∀ u : S, post u → V p l e R s m args below meth c D A nL (cells + mc) (slots + ms) Q (pc + 3) lv st (W1 u ++ wr)) : V p l e R s m args below meth c D A nL cells slots Q pc lv st0 ws := by
  have hc0 := hc
  obtain ⟨hx, hb, hml, hown, hts, hK, hA, hlk, hE⟩ := hc
  intro H locs ls hl hP hD hS
  subst hst
  have hFc := fz_free hD hS hA hp
  have hPc := (va_P_app.mp (hP.pm hp)).1
  refine va_callv (va_runS (As := As) (rest := st) ⟨hx, hb, hml, hown, hts⟩ (hM H.size) (va_cwS As.length hts hg hwy hmr.1 hmr.2 hdy hRm) ⟨PcE.blind, PcE.at hc0 hP hD hS hp As⟩ rfl rfl hl.1 rfl (lv_room hroom) hd hfit) hS (fun q _ h => hFc q h) hFc (fun u t H1 locs1 ht hvm hw hB1 hz1 hk1 hS1 => ?_)
  · have hpo := hw
    obtain ⟨hP1, hD1⟩ := hB1
    rw [ht] at hP1
    obtain ⟨hP2, hD2⟩ := fz_join hP hD hp hk1 hFc hP1 hD1
    exact k u hpo H1 locs1 ls hl hP2 hD2 hS1
theorem V_xcallSV (hc : Cx p R s m args meth c D t A nL cc Ts own) {y : MethodName} {bytes : ByteArray} {maxL mc ms index : Nat} {ret : Option FieldType} {wsy wsy1 : List Cond} {rm : Room} {As st0 : List Value} {S : Type} {W1 : S → va_W} {post : S → Prop} {px : Nat → Prop} {wc wr : va_W} (hp : ws.Perm (wc ++ wr))  {Qc : Array Value → State → Outcome → State → Prop} {px0 : Nat → Prop} {mc0 ms0 : Nat} {PX0 : va_W → Prop} (hxt : ∀ x ∈ c.exceptionTable.toList, False) (hw0 : PX0 ws) (hmc : cells + mc ≤ mc0 ∧ slots + ms ≤ ms0) (hM : XV l D t y wsy rm As wc W1 post (eqW wc) px mc ms) (hst : st0 = As.reverse ++ st) (hg : GoodIn Ts (va_wsS own index y wsy)) (hwy : wsy = Cond.code y bytes maxL ret :: wsy1) (hmr : rm.cells = mc ∧ rm.slots = ms) (hdy : y.cls ≠ "java/lang/invoke/MethodHandle" ∧ y.cls ≠ "java/lang/invoke/VarHandle" ∧ (parseMethodDescriptor y.desc).map (fun d => d.parameters.length) = some As.length) (hRm : rm.frames + 1 ≤ R.frames ∧ 8 + (maxL + 11) + rm.locals ≤ R.locals) (hroom : (st.map fun v => v.category).sum ≤ 8) (hd : decode cc pc = .ok (.invokestatic index, 3)) (hfit : cells + mc ≤ R.cells ∧ slots + ms ≤ R.slots) (kx : ∀ j, px j → px0 j) (k : ∀ u : S, post u → V p l e R s m args below meth c D A nL (cells + mc) (slots + ms) (vx_MQ below Qc (XcE D A PX0 px0) args s mc0 ms0 A) (pc + 3) lv st (W1 u ++ wr)) : V p l e R s m args below meth c D A nL cells slots (vx_MQ below Qc (XcE D A PX0 px0) args s mc0 ms0 A) pc lv st0 ws := by
  have hc0 := hc
  obtain ⟨hx, hb, hml, hown, hts, hK, hA, hlk, hE⟩ := hc
  intro H locs ls hl hP hD hS
  subst hst
  have hFc := fz_free hD hS hA hp
  have hPc := (va_P_app.mp (hP.pm hp)).1
  refine vx_callv (vx_runS (As := As) (rest := st) ⟨hx, hb, hml, hown, hts⟩ (hM H.size) (va_cwS As.length hts hg hwy hmr.1 hmr.2 hdy hRm) ⟨PcE.blind, PcE.at hc0 hP hD hS hp As⟩ rfl rfl hl.1 rfl (lv_room hroom) hd hfit) hS (fun q _ h => hFc q h) hFc (fun q _ h => hFc q h) (fun E ce q9 u t H1 locs1 ht hvm hw hB1 hz1 hk1 hS1 hce hcv hcl1 => ?_) (fun u t H1 locs1 ht hvm hw hB1 hz1 hk1 hS1 => ?_)
  · obtain ⟨hE1, W9, rfl, hP1, hD1⟩ := hB1
    rw [ht] at hP1
    obtain ⟨hP2, hD2⟩ := fz_join hP hD hp hk1 hFc hP1 hD1
    have hP3 := hP2.pm hp.symm
    have hD3 := hD2.pm hp.symm
    exact vx_out (fun x hx9 => absurd (hxt x hx9) id) hlk hce hcv hcl1 (fun T hT _ => ⟨u, kx u hw, ⟨hE1, _, hw0, by rw [hT]; exact hP3, hD3⟩, hS1.F hT⟩) hS1.2.2 hmc.1 hmc.2
  · have hpo := hw
    obtain ⟨hP1, hD1⟩ := hB1
    rw [ht] at hP1
    obtain ⟨hP2, hD2⟩ := fz_join hP hD hp hk1 hFc hP1 hD1
    exact k u hpo H1 locs1 ls hl hP2 hD2 hS1
theorem V_callVD (hc : Cx p R s m args meth c D t A nL cc Ts own) {y : MethodName} {bytes : ByteArray} {maxL mc ms index : Nat} {ret : Option FieldType} {wsy wsy1 : List Cond} {rm : Room} {As st0 : List Value} {S : Type} {W1 : S → va_W} {post : UInt64 → S → Prop} {wc wr : va_W} (hp : ws.Perm (wc ++ wr)) {b ci : Nat} {fs : List Value} {C : String} {T : u_T} {N : Nat} (hrc : wc[0]? = some (b, .inr (ci, fs))) (hcl : vwCl[ci]? = some (C, T, N))  (hM : MD l D t y wsy rm (.ref b :: As) wc W1 post mc ms) (hst : st0 = As.reverse ++ .ref b :: st) (hg : GoodIn Ts (wsV own index C y wsy)) (hwy : wsy = Cond.code y bytes maxL ret :: wsy1) (hmr : rm.cells = mc ∧ rm.slots = ms) (hdy : y.cls = C ∧ y.cls ≠ "java/lang/invoke/MethodHandle" ∧ y.cls ≠ "java/lang/invoke/VarHandle" ∧ (parseMethodDescriptor y.desc).map (fun d => d.parameters.length) = some As.length) (hRm : rm.frames + 1 ≤ R.frames ∧ 8 + (maxL + 11) + rm.locals ≤ R.locals) (hroom : (st.map fun v => v.category).sum ≤ 8) (hd : decode cc pc = .ok (.invokevirtual index, 3)) (hfit : cells + mc ≤ R.cells ∧ slots + ms ≤ R.slots) (k : ∀ (r : UInt64) (u : S), post r u → V p l e R s m args below meth c D A nL (cells + mc) (slots + ms) Q (pc + 3) lv (.double r :: st) (W1 u ++ wr)) : V p l e R s m args below meth c D A nL cells slots Q pc lv st0 ws := by
  have hc0 := hc
  obtain ⟨hx, hb, hml, hown, hts, hK, hA, hlk, hE⟩ := hc
  intro H locs ls hl hP hD hS
  subst hst
  have hFc := fz_free hD hS hA hp
  have hPc := (va_P_app.mp (hP.pm hp)).1
  refine va_calld (va_runV (As := As) (rest := st) ⟨hx, hb, hml, hown, hts⟩ (hM H.size) (cwV As.length hts hg hwy hmr.1 hmr.2 hdy hRm) ⟨PcE.blind, va_recv hK hPc hcl hrc, PcE.at hc0 hP hD hS hp (.ref b :: As)⟩ rfl rfl hl.1 rfl (lv_room hroom) hd hfit) hS (fun q _ h => hFc q h) hFc (fun r u t H1 locs1 ht hvm hw hB1 hz1 hk1 hS1 => ?_)
  · have hpo := hw
    obtain ⟨hP1, hD1⟩ := hB1
    rw [ht] at hP1
    obtain ⟨hP2, hD2⟩ := fz_join hP hD hp hk1 hFc hP1 hD1
    exact k r u hpo H1 locs1 ls hl hP2 hD2 hS1
theorem V_callVR (hc : Cx p R s m args meth c D t A nL cc Ts own) {y : MethodName} {bytes : ByteArray} {maxL mc ms index : Nat} {ret : Option FieldType} {wsy wsy1 : List Cond} {rm : Room} {As st0 : List Value} {S : Type} {W1 : S → va_W} {post : Nat → S → Prop} {wc wr : va_W} (hp : ws.Perm (wc ++ wr)) {b ci : Nat} {fs : List Value} {C : String} {T : u_T} {N : Nat} (hrc : wc[0]? = some (b, .inr (ci, fs))) (hcl : vwCl[ci]? = some (C, T, N))  (hM : MR l D t y wsy rm (.ref b :: As) wc W1 post mc ms) (hst : st0 = As.reverse ++ .ref b :: st) (hg : GoodIn Ts (wsV own index C y wsy)) (hwy : wsy = Cond.code y bytes maxL ret :: wsy1) (hmr : rm.cells = mc ∧ rm.slots = ms) (hdy : y.cls = C ∧ y.cls ≠ "java/lang/invoke/MethodHandle" ∧ y.cls ≠ "java/lang/invoke/VarHandle" ∧ (parseMethodDescriptor y.desc).map (fun d => d.parameters.length) = some As.length) (hRm : rm.frames + 1 ≤ R.frames ∧ 8 + (maxL + 11) + rm.locals ≤ R.locals) (hroom : (st.map fun v => v.category).sum ≤ 8) (hd : decode cc pc = .ok (.invokevirtual index, 3)) (hfit : cells + mc ≤ R.cells ∧ slots + ms ≤ R.slots) (k : ∀ (r : Nat) (u : S), post r u → V p l e R s m args below meth c D A nL (cells + mc) (slots + ms) Q (pc + 3) lv (.ref r :: st) (W1 u ++ wr)) : V p l e R s m args below meth c D A nL cells slots Q pc lv st0 ws := by
  have hc0 := hc
  obtain ⟨hx, hb, hml, hown, hts, hK, hA, hlk, hE⟩ := hc
  intro H locs ls hl hP hD hS
  subst hst
  have hFc := fz_free hD hS hA hp
  have hPc := (va_P_app.mp (hP.pm hp)).1
  refine va_callr (va_runV (As := As) (rest := st) ⟨hx, hb, hml, hown, hts⟩ (hM H.size) (cwV As.length hts hg hwy hmr.1 hmr.2 hdy hRm) ⟨PcE.blind, va_recv hK hPc hcl hrc, PcE.at hc0 hP hD hS hp (.ref b :: As)⟩ rfl rfl hl.1 rfl (lv_room hroom) hd hfit) hS (fun q _ h => hFc q h) hFc (fun u r t H1 locs1 ht hvm hw hB1 hz1 hk1 hS1 => ?_)
  · obtain ⟨hpo, hB1⟩ := hB1
    obtain ⟨hP1, hD1⟩ := hB1
    rw [ht] at hP1
    obtain ⟨hP2, hD2⟩ := fz_join hP hD hp hk1 hFc hP1 hD1
    exact k r u hpo H1 locs1 ls hl hP2 hD2 hS1
theorem V_throwS {ik is ic mc ms j : Nat} {text E : String} {Qc : Array Value → State → Outcome → State → Prop} {px : Nat → Prop} {PX : va_W → Prop} (hc : Cx p R s m args meth c D t A nL cc Ts RX4) (hl0 : l.stackTraces = false) (hE0 : exN j = E) (hj : px j) (hw0 : PX ws) (hcls : Bundle.fit E = true) (hk : Cond.classLink RX4 ik E ∈ Ts) (hini : Cond.initialized E ∈ Ts) (hstr : (is, text) ∈ evStr)
    (hat : ∀ w ∈ (vx_atS RX4 ic E ["java/lang/RuntimeException", "java/lang/Exception"]).filter goodWord, w ∈ Ts) (hat2 : (vx_atS RX4 ic E ["java/lang/RuntimeException", "java/lang/Exception"]).filter (fun w => !goodWord w) = evT E) (hca : (E, E) ∈ evCast)
    (hgood : ∀ w ∈ Cond.classLink RX4 ik E :: Cond.initialized E :: vx_atS RX4 ic E ["java/lang/RuntimeException", "java/lang/Exception"], vx_ot w = true)
    (d0 : decode cc pc = .ok (.new ik, 3)) (d3 : decode cc (pc + 3) = .ok (.dup, 1)) (d4 : decode cc (pc + 4) = .ok (.ldc is, 2)) (d6 : decode cc (pc + 6) = .ok (.invokespecial ic, 3)) (d9 : decode cc (pc + 9) = .ok (.athrow, 1))
    (hxt : ∀ x ∈ c.exceptionTable.toList, False) (hRf : 5 < R.frames) (hRl : (st.map fun v => v.category).sum + 82 ≤ R.locals) (hRc : cells + 1 ≤ R.cells ∧ slots + 6 ≤ R.slots) (hmc : cells + 1 ≤ mc ∧ slots + 6 ≤ ms) : V p l e R s m args below meth c D A nL cells slots (vx_MQ below Qc (XcE D A PX px) args s mc ms A) pc lv st ws := by
  obtain ⟨hx, hb, hml, hown, hts, hK, hA, hlk, hE⟩ := hc
  intro H locs ls hl hP hD hS
  obtain ⟨e1, e2, e3, e4, e5, e6, e7⟩ := hE
  obtain ⟨sa, hsa⟩ := e3 _ hstr
  have hcast := e6 _ hca
  refine vx_throwS (names := ["java/lang/RuntimeException", "java/lang/Exception"]) hx hb hl0 hown hcls (by decide +kernel) (hts _ hk) (hts _ hini) hsa (vx_hat (B := evT E) (fun w hw => hts w (hat w hw)) (fun w hw => by rw [hat2] at hw; exact hw) (vx_c (va_Nw.use rfl (e7 _ (by decide +kernel))) (vx_c (va_Nw.use rfl (e7 _ (by decide +kernel))) (vx_c (va_Nw.use rfl (e7 _ (by decide +kernel))) (vx_c (va_Nw.use rfl hcast) vx_n))))) hgood e1 e2 hS (hl.1.trans hml.symm) d0 d3 d4 d6 d9 (fun x hx9 => absurd (hxt x hx9) id) hRf (by simp only [List.length_cons, List.length_nil]; omega) hRc.1 hRc.2 hlk (fun T _ hz hq => ?_) hS.2.2 hmc.1 hmc.2
  refine ⟨j, hj, ⟨hE0.symm, _, hw0, hP.kept (fun k q hk => hq q.1 (vx_lt hP hk)), hD⟩, Nat.le_trans hS.1 hz, fun q h1 h2 => ?_⟩
  rw [hq q (Nat.lt_of_lt_of_le h1 hS.1)]
  exact hS.2.1 q h1 h2
theorem V_throwSW {ik is ic mc ms j : Nat} {text E : String} {Qc : Array Value → State → Outcome → State → Prop} {px : Nat → Prop} {PX : va_W → Prop} (hc : Cx p R s m args meth c D t A nL cc Ts RX4) (hl0 : l.stackTraces = false) (hE0 : exN j = E) (hj : px j) (hw0 : PX ws) (hcls : Bundle.fit E = true) (hk : Cond.classLink RX4 ik E ∈ Ts) (hini : Cond.initialized E ∈ Ts) (hstr : (is, text) ∈ evStr)
    (hat : ∀ w ∈ (vx_atS RX4 ic E ["java/lang/RuntimeException", "java/lang/Exception"]).filter goodWord, w ∈ Ts) (hat2 : (vx_atS RX4 ic E ["java/lang/RuntimeException", "java/lang/Exception"]).filter (fun w => !goodWord w) = evT E) (hca : (E, E) ∈ evCast)
    (hgood : ∀ w ∈ Cond.classLink RX4 ik E :: Cond.initialized E :: vx_atS RX4 ic E ["java/lang/RuntimeException", "java/lang/Exception"], vx_ot w = true)
    (d0 : decode cc pc = .ok (.new ik, 3)) (d3 : decode cc (pc + 3) = .ok (.dup, 1)) (d4 : decode cc (pc + 4) = .ok (.ldc_w is, 3)) (d6 : decode cc (pc + 7) = .ok (.invokespecial ic, 3)) (d9 : decode cc (pc + 10) = .ok (.athrow, 1))
    (hxt : ∀ x ∈ c.exceptionTable.toList, False) (hRf : 5 < R.frames) (hRl : (st.map fun v => v.category).sum + 82 ≤ R.locals) (hRc : cells + 1 ≤ R.cells ∧ slots + 6 ≤ R.slots) (hmc : cells + 1 ≤ mc ∧ slots + 6 ≤ ms) : V p l e R s m args below meth c D A nL cells slots (vx_MQ below Qc (XcE D A PX px) args s mc ms A) pc lv st ws := by
  obtain ⟨hx, hb, hml, hown, hts, hK, hA, hlk, hE⟩ := hc
  intro H locs ls hl hP hD hS
  obtain ⟨e1, e2, e3, e4, e5, e6, e7⟩ := hE
  obtain ⟨sa, hsa⟩ := e3 _ hstr
  have hcast := e6 _ hca
  refine vx_throwSW (names := ["java/lang/RuntimeException", "java/lang/Exception"]) hx hb hl0 hown hcls (by decide +kernel) (hts _ hk) (hts _ hini) hsa (vx_hat (B := evT E) (fun w hw => hts w (hat w hw)) (fun w hw => by rw [hat2] at hw; exact hw) (vx_c (va_Nw.use rfl (e7 _ (by decide +kernel))) (vx_c (va_Nw.use rfl (e7 _ (by decide +kernel))) (vx_c (va_Nw.use rfl (e7 _ (by decide +kernel))) (vx_c (va_Nw.use rfl hcast) vx_n))))) hgood e1 e2 hS (hl.1.trans hml.symm) d0 d3 d4 d6 d9 (fun x hx9 => absurd (hxt x hx9) id) hRf (by simp only [List.length_cons, List.length_nil]; omega) hRc.1 hRc.2 hlk (fun T _ hz hq => ?_) hS.2.2 hmc.1 hmc.2
  refine ⟨j, hj, ⟨hE0.symm, _, hw0, hP.kept (fun k q hk => hq q.1 (vx_lt hP hk)), hD⟩, Nat.le_trans hS.1 hz, fun q h1 h2 => ?_⟩
  rw [hq q (Nat.lt_of_lt_of_le h1 hS.1)]
  exact hS.2.1 q h1 h2
end VR
