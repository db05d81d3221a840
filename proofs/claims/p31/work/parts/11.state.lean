/-- a state as cells: its addresses a, its contents u (0..15; the scalars 0, 4 to 8 at place 0) -/
def stW (t : Nat → ClassId) (a : Nat → Nat) (u : Nat → Nat → Int) : va_W := [oB (a 0) 2 [.ref (a 1), .ref (a 2), .ref (a 3), .ref (a 4)], oB (a 1) 3 [.ref (a 5), .ref (a 6), .ref (a 7), .int (iI (u 0 0))], aI t (a 5) 120 (u 1), aI t (a 6) 120 (u 2), aZ t (a 7) 120 (u 3), oB (a 2) 1 [.ref (a 8), .ref (a 9), .int (iI (u 4 0)), .int (iI (u 5 0)), .ref (a 10), .int (iI (u 6 0)), .int (iI (u 7 0))], oB (a 8) 3 [.ref (a 11), .ref (a 12), .ref (a 13), .int (iI (u 8 0))], aI t (a 11) 120 (u 9), aI t (a 12) 120 (u 10), aZ t (a 13) 120 (u 11), aI t (a 9) 120 (u 12), aI t (a 10) 30 (u 13), aI t (a 3) 3 (u 14), aI t (a 4) 7 (u 15)]
def mkU (nf : Int) (kf : Nat → Int) (df : Nat → Int) (mf : Nat → Int) (nl : Int) (nc : Int) (nw : Int) (ru : Int) (ns : Int) (ks : Nat → Int) (ds : Nat → Int) (ms : Nat → Int) (li : Nat → Int) (qu : Nat → Int) (se : Nat → Int) (co : Nat → Int) : Nat → Nat → Int := fun c => match c with | 0 => fun _ => nf | 1 => kf | 2 => df | 3 => mf | 4 => fun _ => nl | 5 => fun _ => nc | 6 => fun _ => nw | 7 => fun _ => ru | 8 => fun _ => ns | 9 => ks | 10 => ds | 11 => ms | 12 => li | 13 => qu | 14 => se | 15 => co | _ => fun _ => 0
def svR (sa : Nat → Nat → Nat) : Nat → Option Nat := fun i => some (sa i 0)
def upS (sv : Nat → Nat → Nat → Int) (j : Nat) (u : Nat → Nat → Int) : Nat → Nat → Nat → Int := fun i => if i = j then u else sv i
def rotA (sa : Nat → Nat → Nat) : Nat → Nat → Nat := fun i => if i < 5 then sa (i + 1) else if i = 5 then sa 0 else sa i
def rotS (sv : Nat → Nat → Nat → Int) : Nat → Nat → Nat → Int := fun i => if i < 5 then sv (i + 1) else if i = 5 then sv 0 else sv i
def SVW (t : Nat → ClassId) (sa : Nat → Nat → Nat) (sv : Nat → Nat → Nat → Int) : va_W := stW t (sa 0) (sv 0) ++ (stW t (sa 1) (sv 1) ++ (stW t (sa 2) (sv 2) ++ (stW t (sa 3) (sv 3) ++ (stW t (sa 4) (sv 4) ++ stW t (sa 5) (sv 5)))))
def SNW (t : Nat → ClassId) (sa : Nat → Nat → Nat) (sv : Nat → Nat → Nat → Int) : va_W := stW t (sa 0) (sv 0) ++ stW t (sa 1) (sv 1)
def SVr (t : Nat → ClassId) (sa : Nat → Nat → Nat) (sv : Nat → Nat → Nat → Int) (j : Nat) : va_W := match j with
  | 0 => stW t (sa 1) (sv 1) ++ (stW t (sa 2) (sv 2) ++ (stW t (sa 3) (sv 3) ++ (stW t (sa 4) (sv 4) ++ stW t (sa 5) (sv 5))))
  | 1 => stW t (sa 0) (sv 0) ++ (stW t (sa 2) (sv 2) ++ (stW t (sa 3) (sv 3) ++ (stW t (sa 4) (sv 4) ++ stW t (sa 5) (sv 5))))
  | 2 => stW t (sa 0) (sv 0) ++ (stW t (sa 1) (sv 1) ++ (stW t (sa 3) (sv 3) ++ (stW t (sa 4) (sv 4) ++ stW t (sa 5) (sv 5))))
  | 3 => stW t (sa 0) (sv 0) ++ (stW t (sa 1) (sv 1) ++ (stW t (sa 2) (sv 2) ++ (stW t (sa 4) (sv 4) ++ stW t (sa 5) (sv 5))))
  | 4 => stW t (sa 0) (sv 0) ++ (stW t (sa 1) (sv 1) ++ (stW t (sa 2) (sv 2) ++ (stW t (sa 3) (sv 3) ++ stW t (sa 5) (sv 5))))
  | _ => stW t (sa 0) (sv 0) ++ (stW t (sa 1) (sv 1) ++ (stW t (sa 2) (sv 2) ++ (stW t (sa 3) (sv 3) ++ stW t (sa 4) (sv 4))))
def SNr (t : Nat → ClassId) (sa : Nat → Nat → Nat) (sv : Nat → Nat → Nat → Int) (j : Nat) : va_W := match j with
  | 0 => stW t (sa 1) (sv 1)
  | _ => stW t (sa 0) (sv 0)
theorem pmid (l1 s l2 : va_W) : (l1 ++ (s ++ l2)).Perm (s ++ (l1 ++ l2)) := by
  rw [← List.append_assoc, ← List.append_assoc]
  exact List.perm_append_comm.append_right l2
theorem SVW_get {t : Nat → ClassId} {sa : Nat → Nat → Nat} {sv : Nat → Nat → Nat → Int} {j : Nat} (hj : j < 6) : (SVW t sa sv).Perm (stW t (sa j) (sv j) ++ SVr t sa sv j) := by
  unfold SVW
  match j, hj with
  | 0, _ => exact List.Perm.refl _
  | 1, _ => exact pmid _ _ _
  | 2, _ => exact (List.Perm.append_left _ (pmid _ _ _)).trans (pmid _ _ _)
  | 3, _ => exact (List.Perm.append_left _ ((List.Perm.append_left _ (pmid _ _ _)).trans (pmid _ _ _))).trans (pmid _ _ _)
  | 4, _ => exact (List.Perm.append_left _ ((List.Perm.append_left _ ((List.Perm.append_left _ (pmid _ _ _)).trans (pmid _ _ _))).trans (pmid _ _ _))).trans (pmid _ _ _)
  | 5, _ => exact (List.Perm.append_left _ ((List.Perm.append_left _ ((List.Perm.append_left _ ((List.Perm.append_left _ List.perm_append_comm).trans (pmid _ _ _))).trans (pmid _ _ _))).trans (pmid _ _ _))).trans (pmid _ _ _)
theorem SVW_put {t : Nat → ClassId} {sa : Nat → Nat → Nat} {sv : Nat → Nat → Nat → Int} {j : Nat} {u : Nat → Nat → Int} (hj : j < 6) : (stW t (sa j) u ++ SVr t sa sv j).Perm (SVW t sa (upS sv j u)) := by
  have h := (SVW_get (t := t) (sa := sa) (sv := upS sv j u) hj).symm
  have e1 : upS sv j u j = u := by unfold upS; rw [if_pos rfl]
  have e2 : SVr t sa (upS sv j u) j = SVr t sa sv j := by
    match j, hj with
    | 0, _ => rfl
    | 1, _ => rfl
    | 2, _ => rfl
    | 3, _ => rfl
    | 4, _ => rfl
    | 5, _ => rfl
  rw [e1, e2] at h
  exact h
theorem SNW_get {t : Nat → ClassId} {sa : Nat → Nat → Nat} {sv : Nat → Nat → Nat → Int} {j : Nat} (hj : j < 2) : (SNW t sa sv).Perm (stW t (sa j) (sv j) ++ SNr t sa sv j) := by
  unfold SNW
  match j, hj with
  | 0, _ => exact List.Perm.refl _
  | 1, _ => exact List.perm_append_comm
theorem SNW_put {t : Nat → ClassId} {sa : Nat → Nat → Nat} {sv : Nat → Nat → Nat → Int} {j : Nat} {u : Nat → Nat → Int} (hj : j < 2) : (stW t (sa j) u ++ SNr t sa sv j).Perm (SNW t sa (upS sv j u)) := by
  have h := (SNW_get (t := t) (sa := sa) (sv := upS sv j u) hj).symm
  have e1 : upS sv j u j = u := by unfold upS; rw [if_pos rfl]
  have e2 : SNr t sa (upS sv j u) j = SNr t sa sv j := by
    match j, hj with
    | 0, _ => rfl
    | 1, _ => rfl
  rw [e1, e2] at h
  exact h
theorem gP (X : va_W) {cells S wr0 F s Fr : va_W} (h : cells.Perm (S ++ wr0)) (hF : F.Perm (s ++ Fr)) : (cells ++ (X ++ F)).Perm ((s ++ S) ++ (wr0 ++ (X ++ Fr))) := by
  refine (h.append (hF.append_left X)).trans ?_
  have e : (S ++ wr0) ++ (X ++ (s ++ Fr)) = ((S ++ wr0) ++ X) ++ (s ++ Fr) := by simp only [List.append_assoc]
  rw [e]
  refine (pmid _ _ _).trans ?_
  simp only [List.append_assoc]
  exact List.Perm.refl _
theorem gP2 (X : va_W) {cells S wr0 F s Fr : va_W} (h : cells.Perm (S ++ wr0)) (hF : F.Perm (s ++ Fr)) : (cells ++ (X ++ F)).Perm ((S ++ s) ++ (wr0 ++ (X ++ Fr))) := (gP X h hF).trans (List.perm_append_comm.append_right _)
theorem gQ (X : va_W) {cells S wr0 F s Fr : va_W} (h : cells.Perm (S ++ wr0)) (hF : (s ++ Fr).Perm F) : ((s ++ S) ++ (wr0 ++ (X ++ Fr))).Perm (cells ++ (X ++ F)) := (gP X h hF.symm).symm
theorem gQ2 (X : va_W) {cells S wr0 F s Fr : va_W} (h : cells.Perm (S ++ wr0)) (hF : F.Perm (s ++ Fr)) : ((S ++ s) ++ (wr0 ++ (X ++ Fr))).Perm (cells ++ (X ++ F)) := (gP2 X h hF).symm
theorem pmH (SV SN : va_W) {ws wc wr : va_W} (h : ws.Perm (wc ++ wr)) : (ws ++ (SV ++ SN)).Perm ((wc ++ SV) ++ (wr ++ SN)) := by
  refine (h.append_right _).trans ?_
  rw [List.append_assoc, List.append_assoc]
  exact (pmid _ _ _).append_left wc
theorem pmH1 (SV SN : va_W) {c1 wr cn : va_W} (h : (c1 ++ wr).Perm cn) : ((c1 ++ SV) ++ (wr ++ SN)).Perm (cn ++ (SV ++ SN)) := (pmH SV SN h.symm).symm
theorem rot_eq (sa : Nat → Nat → Nat) : va_up (va_up (va_up (va_up (va_up (va_up (svR sa) 0 (some (sa 1 0))) 1 (some (sa 2 0))) 2 (some (sa 3 0))) 3 (some (sa 4 0))) 4 (some (sa 5 0))) 5 (some (sa 0 0)) = svR (rotA sa) := by
  funext i
  match i with
  | 0 => rfl
  | 1 => rfl
  | 2 => rfl
  | 3 => rfl
  | 4 => rfl
  | 5 => rfl
  | n + 6 =>
    have h5 : ¬ n + 6 < 5 := by omega
    simp [va_up, svR, rotA, h5]
theorem rot_pm (t : Nat → ClassId) (sa : Nat → Nat → Nat) (sv : Nat → Nat → Nat → Int) {c1 c2 : va_W} (h : c1 = c2) : (c1 ++ SVW t sa sv).Perm (c2 ++ SVW t (rotA sa) (rotS sv)) := by
  subst h
  refine List.Perm.append_left _ ?_
  have e : SVW t (rotA sa) (rotS sv) = (stW t (sa 1) (sv 1) ++ (stW t (sa 2) (sv 2) ++ (stW t (sa 3) (sv 3) ++ (stW t (sa 4) (sv 4) ++ stW t (sa 5) (sv 5))))) ++ stW t (sa 0) (sv 0) := by
    show stW t (sa 1) (sv 1) ++ (stW t (sa 2) (sv 2) ++ (stW t (sa 3) (sv 3) ++ (stW t (sa 4) (sv 4) ++ (stW t (sa 5) (sv 5) ++ stW t (sa 0) (sv 0))))) = _
    simp only [List.append_assoc]
  rw [e]
  exact List.perm_append_comm
def ta_LEAST_VALUES : Nat → Int := fun k => match k with | 0 => 10 | 1 => 3 | _ => 1
def ta_GREATEST_VALUES : Nat → Int := fun k => match k with | 0 => 100 | 1 => 40 | _ => 8
def ta_FIRST_VALUES : Nat → Int := fun k => match k with | 0 => 50 | 1 => 10 | _ => 2
theorem tb_LEAST_VALUES : ∃ g, ("LEAST_VALUES", g) ∈ evTab ∧ ∀ j, j < 3 → g j = .int (iI (ta_LEAST_VALUES j)) := ⟨_, List.mem_of_getElem? (i := 1) rfl, fun j hj => match j, hj with | 0, _ => rfl | 1, _ => rfl | 2, _ => rfl⟩
theorem tb_GREATEST_VALUES : ∃ g, ("GREATEST_VALUES", g) ∈ evTab ∧ ∀ j, j < 3 → g j = .int (iI (ta_GREATEST_VALUES j)) := ⟨_, List.mem_of_getElem? (i := 2) rfl, fun j hj => match j, hj with | 0, _ => rfl | 1, _ => rfl | 2, _ => rfl⟩
theorem tb_FIRST_VALUES : ∃ g, ("FIRST_VALUES", g) ∈ evTab ∧ ∀ j, j < 3 → g j = .int (iI (ta_FIRST_VALUES j)) := ⟨_, List.mem_of_getElem? (i := 0) rfl, fun j hj => match j, hj with | 0, _ => rfl | 1, _ => rfl | 2, _ => rfl⟩
section VTB
variable {p : Program} {l : Launch} {e : Env} {R : Room} {s : State} {m : MethodId} {args : Array Value} {below : List Frame} {meth : Method} {c : Code} {D : va_G} {t : Nat → ClassId} {A : Nat → Prop} {nL : Nat} {cc : ByteArray} {Ts : List Cond} {own : String} {cells slots : Nat} {Q : State → Prop} {pc : Nat} {lv : List (Nat × Value)} {st : List Value} {ws : va_W}
theorem V_tab {index : Nat} {tab : String} {f : Nat → Int} {i : Fin 4} {x : Int} {X : Prop} (hc : Cx p R s m args meth c D t A nL cc Ts RX4) (htab : ∃ g, (tab, g) ∈ evTab ∧ ∀ j, j < 3 → g j = .int (iI (f j))) (hlink : Cond.fieldLink RX4 index RX4 tab "[I" ∈ Ts) (d0 : decode cc pc = .ok (.getstatic index, 3)) (d1 : decode cc (pc + 3) = .ok (.iload_n i, 1)) (d2 : decode cc (pc + 3 + 1) = .ok (.iaload, 1)) (j : Nat) (hj : lv[j]? = some ((i : Nat), .int (iI x))) (hv : (0 ≤ x ∧ x < 3) ∧ X) (k : X → V p l e R s m args below meth c D A nL cells slots Q (pc + 3 + 1 + 1) lv (.int (iI (f x.toNat)) :: st) ws) : V p l e R s m args below meth c D A nL cells slots Q pc lv st ws := by
  obtain ⟨hx, hb, hml, hown, hts, hK, hA, hlk, hE⟩ := hc
  intro H locs ls hl hP hD hS
  obtain ⟨g, hm, hg⟩ := htab
  obtain ⟨a, hz, hT⟩ := hE.2.2.2.1 _ hm
  refine va_gets hx hb hz hS hown (hts _ hlink) (fun _ h => h) d0 ?_
  refine lv_iload_n hx hb d1 rfl (lv_at hl j hj) ?_
  refine va_ti (v := .int (iI (f x.toNat))) hx hb hT hS (iI_in (by decide) hv.1.1 hv.1.2) (by rw [iI_cl (by omega)]; exact hg _ (by omega)) d2 ?_
  exact k hv.2 H locs ls hl hP hD hS
end VTB
