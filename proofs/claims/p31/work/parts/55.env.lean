/-! what the tables and the premises say of the law's start -/
theorem len_spec {args : Array Value} {first s : State} {o : Option Outcome} {idx : List Nat} {t : Term} {v : Value} (h : (Term.length t).eval args first o idx s = some v) : ∃ (a : Addr) (cell : Cell), t.eval args first o idx s = some (.ref a) ∧ s.arrayAt? a = some cell ∧ v = .int cell.slots.size.toInt32 ∧ cell.slots.size < 2147483648 := by
  simp only [Term.eval, Option.bind_eq_bind] at h
  cases ht : t.eval args first o idx s with
  | none => simp [ht] at h
  | some x =>
    cases x <;> simp [ht] at h
    case ref a =>
      obtain ⟨cell, hcell, h⟩ := Option.bind_eq_some_iff.mp h
      by_cases hn : cell.slots.size < 2147483648
      · rw [if_pos hn] at h; cases h; exact ⟨a, cell, rfl, hcell, rfl, hn⟩
      · rw [if_neg hn] at h; cases h
abbrev gv : List Cond := flatC (Cond.and given_1 narrow_1)
abbrev lwA (s : State) : Nat → Prop := fun q => s.heap.size ≤ q
theorem gv_str : ∀ q ∈ evStr, Cond.stringRef RX4 q.1 q.2 ∈ lw_tbl ∧ Cond.exactly (.string RX4 q.1) "java/lang/String" ∈ gv := by decide +kernel
theorem gv_nest : ∀ q ∈ evNest, Cond.methodLinkNest q.1 q.2.1 q.2.2 RX4 ∈ lw_tbl := by decide +kernel
theorem gv_cast : ∀ q ∈ evCast, Cond.castable q.1 q.2 ∈ lw_tbl := by decide +kernel
theorem gv_decl : ∀ q ∈ evDecl, Cond.declares q ∈ lw_tbl := by decide +kernel
theorem gv_z1 : Cond.laysStatic Bundle.tN "UNASSIGNED_STACK" Bundle.steD ∈ lw_tbl ∧ Cond.initialized Bundle.tN ∈ lw_tbl ∧ Cond.isRef (.static Bundle.tN "UNASSIGNED_STACK" Bundle.steD) ∈ gv := by decide +kernel
theorem gv_z2 : Cond.laysStatic Bundle.tN "SUPPRESSED_SENTINEL" Bundle.listD ∈ lw_tbl ∧ Cond.isRef (.static Bundle.tN "SUPPRESSED_SENTINEL" Bundle.listD) ∈ gv := by decide +kernel
def tabW (n : String) (x y z : Int32) : List Cond := [.arrayOf (.static RX4 n "[I") .int, .eq (.length (.static RX4 n "[I")) (.int 3), .eq (.elem (.static RX4 n "[I") (.int 0)) (.int x), .eq (.elem (.static RX4 n "[I") (.int 1)) (.int y), .eq (.elem (.static RX4 n "[I") (.int 2)) (.int z)]
theorem gv_t1 : (∀ w ∈ tabW "FIRST_VALUES" 50 10 2, w ∈ gv) ∧ Cond.laysStatic RX4 "FIRST_VALUES" "[I" ∈ lw_tbl := by decide +kernel
theorem gv_t2 : (∀ w ∈ tabW "LEAST_VALUES" 10 3 1, w ∈ gv) ∧ Cond.laysStatic RX4 "LEAST_VALUES" "[I" ∈ lw_tbl := by decide +kernel
theorem gv_t3 : (∀ w ∈ tabW "GREATEST_VALUES" 100 40 8, w ∈ gv) ∧ Cond.laysStatic RX4 "GREATEST_VALUES" "[I" ∈ lw_tbl := by decide +kernel
theorem gv_i4 : Cond.initialized RX4 ∈ lw_tbl := by decide +kernel
theorem gv_ex : Cond.exactly (.static RX4 "FIRST_VALUES" "[I") "[I" ∈ gv := by decide +kernel
theorem gv_f : Cond.arrayOver (.object RX2) ∈ lw_tbl ∧ Cond.fieldLinkNest RX2 25 RX4 "FIRST_VALUES" "[I" RX4 ∈ lw_tbl := by decide +kernel
theorem gv_g : Cond.not (.castable "java/lang/IllegalStateException" "java/lang/IllegalArgumentException") ∈ gv ∧ Cond.not (.castable "java/lang/IllegalArgumentException" "java/lang/IndexOutOfBoundsException") ∈ gv ∧ Cond.not (.castable "java/lang/IllegalStateException" "java/lang/IndexOutOfBoundsException") ∈ gv := by decide +kernel
theorem gv_k : Cond.instantiable RX0 2 ∈ lw_tbl ∧ Cond.instantiable RX1 7 ∈ lw_tbl ∧ Cond.instantiable RX2 4 ∈ lw_tbl ∧ Cond.instantiable RX3 4 ∈ lw_tbl ∧ Cond.instantiable RX4 9 ∈ lw_tbl := by decide +kernel
theorem gv_a : Cond.arrayClass .int ∈ lw_tbl ∧ Cond.arrayClass .boolean ∈ lw_tbl ∧ Cond.arrayClass .char ∈ lw_tbl := by decide +kernel
section ENV
variable {s : State} {av : Array Value}
theorem lw_T (hts : ∀ w ∈ lw_tbl, w.before av s = true) (hs : ∀ w ∈ gv, w.before av s = true) {n : String} {x y z : Int32} (h1 : (∀ w ∈ tabW n x y z, w ∈ gv) ∧ Cond.laysStatic RX4 n "[I" ∈ lw_tbl) (f : Nat → Value) (hf : f 0 = .int x ∧ f 1 = .int y ∧ f 2 = .int z) : ∃ a, va_Z RX4 n "[I" (.ref a) (lwA s) s s.heap ∧ va_T .int a 3 f (lwA s) s s.heap := by
  obtain ⟨hw, hl⟩ := h1
  have hA : ∀ a : Nat, a < s.heap.size → ¬ lwA s a := fun a h q => by
    have q : s.heap.size ≤ a := q
    omega
  have g : ∀ (k : Nat) (w : Cond), (tabW n x y z)[k]? = some w → w.before av s = true := fun k w h => hs w (hw w (List.mem_of_getElem? h))
  obtain ⟨a, ha, hT⟩ := va_Tof (tm := .static RX4 n "[I") (ty := .int) (N := 3) (f := f) (A := lwA s) (by decide) (g 0 _ rfl) (va_eqt (g 1 _ rfl)) (fun j hj => match j, hj with
    | 0, _ => by rw [hf.1]; exact va_eqt (g 2 _ rfl)
    | 1, _ => by rw [hf.2.1]; exact va_eqt (g 3 _ rfl)
    | 2, _ => by rw [hf.2.2]; exact va_eqt (g 4 _ rfl)) hA
  exact ⟨a, va_Zof (hts _ hl) (hts _ gv_i4) ha hA, hT⟩
theorem lw_Ev (hts : ∀ w ∈ lw_tbl, w.before av s = true) (hs : ∀ w ∈ gv, w.before av s = true) : Ev (lwA s) s s.heap := by
  have hA : ∀ a : Nat, a < s.heap.size → ¬ lwA s a := fun a h q => by
    have q : s.heap.size ≤ a := q
    omega
  refine ⟨vx_Zqof (hts _ gv_z1.1) (hts _ gv_z1.2.1) (hs _ gv_z1.2.2) hA, vx_Zqof (hts _ gv_z2.1) (hts _ gv_z1.2.1) (hs _ gv_z2.2) hA, fun q hq => ?_, ?_, fun q hq => va_Nw.of rfl (hts _ (gv_nest q hq)), fun q hq => va_Nw.of rfl (hts _ (gv_cast q hq)), fun q hq => va_Nw.of rfl (hts _ (gv_decl q hq))⟩
  · obtain ⟨h1, h2⟩ := gv_str q hq
    obtain ⟨a, c, cell, k, ha, -⟩ := Cond.exactly_spec (hs _ h2)
    exact ⟨a, vk_R.of (hts _ h1) ha⟩
  · refine List.forall_mem_cons.mpr ⟨?_, List.forall_mem_cons.mpr ⟨?_, List.forall_mem_cons.mpr ⟨?_, fun q h => absurd h List.not_mem_nil⟩⟩⟩
    · exact lw_T hts hs gv_t1 _ ⟨rfl, rfl, rfl⟩
    · exact lw_T hts hs gv_t2 _ ⟨rfl, rfl, rfl⟩
    · exact lw_T hts hs gv_t3 _ ⟨rfl, rfl, rfl⟩
theorem lw_Fx (hts : ∀ w ∈ lw_tbl, w.before av s = true) (hs : ∀ w ∈ gv, w.before av s = true) : Fx (lwA s) s s.heap := by
  have hA : ∀ a : Nat, a < s.heap.size → ¬ lwA s a := fun a h q => by
    have q : s.heap.size ≤ a := q
    omega
  refine ⟨va_AO.of (hts _ gv_f.1), va_Nw.of rfl (hts _ gv_f.2), ?_⟩
  have g : ∀ (k : Nat) (w : Cond), (tabW "FIRST_VALUES" 50 10 2)[k]? = some w → w.before av s = true := fun k w h => hs w (gv_t1.1 w (List.mem_of_getElem? h))
  obtain ⟨a, cell, ha, hat, hv, hsz⟩ := len_spec (va_eqt (g 1 _ rfl))
  obtain ⟨hcell, hkn, hst, -⟩ := State.arrayAt?_spec hat
  obtain ⟨a2, c2, cell2, k2, e1, e2, e3, e4, e5, e6, -⟩ := Cond.exactly_spec (hs _ gv_ex)
  cases ha.symm.trans e1
  cases hcell.symm.trans e3
  have h3 : cell.slots.size = 3 := by
    have h9 := congrArg Int32.toInt (Value.int.inj hv)
    rw [show (3 : Int32).toInt = 3 from rfl] at h9
    have h8 : cell.slots.size.toInt32.toInt = (cell.slots.size : Int) := by
      exact nI_toInt (n := cell.slots.size) (by omega)
    omega
  have hel : ∀ (k : Nat) (x : Int32), k < 3 → (Cond.eq (.elem (.static RX4 "FIRST_VALUES" "[I") (.int (Int32.ofNat k))) (.int x)).before av s = true → cell.slots[k]? = some (.int x) := by
    intro k x hk h
    obtain ⟨b1, i1, cell3, q1, q2, q3, q4, q5⟩ := Term.elem_spec (va_eqt h)
    cases ha.symm.trans q1
    cases hat.symm.trans q3
    have hi : i1 = Int32.ofNat k := by
      have e : (Term.int (Int32.ofNat k)).eval av s none [] s = some (.int (Int32.ofNat k)) := rfl
      cases q2.symm.trans e
      rfl
    have hc : i1.toNatClampNeg = k := by rw [hi]; exact Int32.toNatClampNeg_ofNat_of_lt (by omega)
    rw [hc] at q5
    exact q5
  have s0 := hel 0 50 (by decide) (g 2 _ rfl)
  have s1 := hel 1 10 (by decide) (g 3 _ rfl)
  have s2 := hel 2 2 (by decide) (g 4 _ rfl)
  refine ⟨a, cell, va_Zof (hts _ gv_t1.2) (hts _ gv_i4) ha hA, hcell, by rw [e6]; exact e2, ?_, fun k h => ?_, hkn, hA a (Array.getElem?_eq_some_iff.mp hcell).1⟩
  · refine Array.ext_getElem? (fun i => ?_)
    unfold arrV
    rw [Array.getElem?_ofFn]
    by_cases hi : i < 3
    · rw [dif_pos hi]
      rcases (show i = 0 ∨ i = 1 ∨ i = 2 by omega) with rfl | rfl | rfl
      · exact s0
      · exact s1
      · exact s2
    · rw [dif_neg hi]
      exact Array.getElem?_eq_none (by omega)
  · rw [h] at hst
    cases hst
theorem lw_Gx (hs : ∀ w ∈ gv, w.before av s = true) : Gx s := ⟨va_Nc.of (hs _ gv_g.1), va_Nc.of (hs _ gv_g.2.1), va_Nc.of (hs _ gv_g.2.2)⟩
theorem lw_arr {ty : FieldType} (h : (Cond.arrayClass ty).before av s = true) : ∃ cA, ArrOfT s cA ty ∧ s.vm.findClass ("[" ++ ty.toString) = some cA := by
  obtain ⟨cA, k, comp, h1, h2, h3⟩ := Cond.arrayClass_spec h
  exact ⟨cA, fun n z => ⟨fun k h => (by cases h), k, h2, comp, h3⟩, h1⟩
theorem lw_K (hts : ∀ w ∈ lw_tbl, w.before av s = true) : ∃ (D : va_G) (t : Nat → ClassId), va_K D vwCl (tyL t) s := by
  obtain ⟨c0, i0, k0⟩ := u_known (C := RX0) (T := TX0) (N := 2) hts wsL_lx0 (hts _ gv_k.1)
  obtain ⟨c1, i1, k1⟩ := u_known (C := RX1) (T := TX1) (N := 7) hts wsL_lx1 (hts _ gv_k.2.1)
  obtain ⟨c2, i2, k2⟩ := u_known (C := RX2) (T := TX2) (N := 4) hts wsL_lx2 (hts _ gv_k.2.2.1)
  obtain ⟨c3, i3, k3⟩ := u_known (C := RX3) (T := TX3) (N := 4) hts wsL_lx3 (hts _ gv_k.2.2.2.1)
  obtain ⟨c4, i4, k4⟩ := u_known (C := RX4) (T := TX4) (N := 9) hts wsL_lx4 (hts _ gv_k.2.2.2.2)
  obtain ⟨t0, a0, b0⟩ := lw_arr (hts _ gv_a.1)
  obtain ⟨t1, a1, b1⟩ := lw_arr (hts _ gv_a.2.1)
  obtain ⟨t2, a2, b2⟩ := lw_arr (hts _ gv_a.2.2)
  obtain ⟨comp, t3, k9, f1, f2, f3, f4, f5⟩ := Cond.arrayOver_spec (hts _ gv_f.1)
  refine ⟨(fun k => match k with | 0 => c0 | 1 => c1 | 2 => c2 | 3 => c3 | _ => c4, fun k => match k with | 0 => i0 | 1 => i1 | 2 => i2 | 3 => i3 | _ => i4), (fun k => match k with | 0 => t0 | 1 => t1 | 2 => t2 | _ => t3), fun c q hq => ?_, fun k q hk => ?_⟩
  · match c, hq with
    | 0, hq => cases hq; exact k0
    | 1, hq => cases hq; exact k1
    | 2, hq => cases hq; exact k2
    | 3, hq => cases hq; exact k3
    | 4, hq => cases hq; exact k4
    | c + 5, hq => simp [vwCl] at hq
  · match k, hk with
    | 0, hk => cases hk; exact ⟨a0, b0⟩
    | 1, hk => cases hk; exact ⟨a1, b1⟩
    | 2, hk => cases hk; exact ⟨a2, b2⟩
    | 3, hk =>
      cases hk
      exact ⟨fun n z => ⟨fun k h => (by cases h), k9, f3, comp, f4⟩, k9, comp, f3, f4, f1, f5⟩
    | k + 4, hk => simp [tyL] at hk
end ENV
