/-! cell, new objects, what the loop keeps -/
section VLK
variable {p : Program} {l : Launch} {e : Env} {R : Room} {s : State} {m : MethodId} {args : Array Value} {below : List Frame} {meth : Method} {c : Code} {D : va_G} {t : Nat → ClassId} {A : Nat → Prop} {nL : Nat} {cc : ByteArray} {Ts : List Cond} {own : String} {cells slots : Nat} {Q : State → Prop} {pc : Nat} {lv : List (Nat × Value)} {st : List Value} {ws : va_W}
theorem V_sld (hc : Cx p R s m args meth c D t A nL cc Ts own) {b L : Nat} {xs : Nat → Int32} (hX : va_X b L xs s s.heap) (hbl : b < s.heap.size) (hbA : ¬ A b) {j : Int} (hj : 0 ≤ j ∧ j < L) (hL : L ≤ 260) (hd : decode cc pc = .ok (.iaload, 1)) (k : V p l e R s m args below meth c D A nL cells slots Q (pc + 1) lv (.int (xs j.toNat) :: st) ws) : V p l e R s m args below meth c D A nL cells slots Q pc lv (.int (iI j) :: .ref b :: st) ws := by
  obtain ⟨hx, hb, hml, hown, hts, hK, hA, hlk, hE⟩ := hc
  intro H locs ls hl hP hD hS
  refine va_sld hx hb hX hbl hbA hS (iI_in (by omega) hj.1 hj.2) hd ?_
  rw [iI_cl (by omega)]
  exact k H locs ls hl hP hD hS
theorem V_slen (hc : Cx p R s m args meth c D t A nL cc Ts own) {b L : Nat} {xs : Nat → Int32} (hX : va_X b L xs s s.heap) (hbl : b < s.heap.size) (hbA : ¬ A b) (hd : decode cc pc = .ok (.arraylength, 1)) (k : V p l e R s m args below meth c D A nL cells slots Q (pc + 1) lv (.int (iI (L : Int)) :: st) ws) : V p l e R s m args below meth c D A nL cells slots Q pc lv (.ref b :: st) ws := by
  obtain ⟨hx, hb, hml, hown, hts, hK, hA, hlk, hE⟩ := hc
  intro H locs ls hl hP hD hS
  refine va_slen hx hb hX hbl hbA hS hd ?_
  have e9 : Int32.ofNat L = iI (L : Int) := (iI_nat L).symm
  rw [e9]
  exact k H locs ls hl hP hD hS
theorem V_ldcI (hc : Cx p R s m args meth c D t A nL cc Ts own) {index : Nat} {v : Int32} {n : Int} (hw : Cond.constant own index v ∈ Ts) (hv : v = iI n) (hd : decode cc pc = .ok (.ldc index, 2)) (k : V p l e R s m args below meth c D A nL cells slots Q (pc + 2) lv (.int (iI n) :: st) ws) : V p l e R s m args below meth c D A nL cells slots Q pc lv st ws := by
  subst hv
  exact V_ldc hc hw hd k
end VLK
theorem and_rng (x : Int32) : 0 ≤ (x &&& 2147483647).toInt ∧ (x &&& 2147483647).toInt ≤ 2147483647 := by
  refine ⟨?_, by have := Int32.toInt_lt (x &&& 2147483647); omega⟩
  show 0 ≤ (x &&& 2147483647).toBitVec.toInt
  refine BitVec.toInt_nonneg_of_msb_false ?_
  rw [Int32.toBitVec_and, BitVec.msb_and]
  have e : (2147483647 : Int32).toBitVec.msb = false := by decide
  rw [e, Bool.and_false]
def PcX (D : va_G) (t : Nat → ClassId) (b L : Nat) (xs : Nat → Int32) (k : Int) (sz : Nat) : Array Value → State → Prop := va_Pc [.ref b, .int (iI k)] (fun U => U.heap.size = sz ∧ va_K D vwCl (tyL t) U ∧ Ev (va_A [] sz) U U.heap ∧ va_X b L xs U U.heap ∧ b < sz)
theorem PcX.blind {D : va_G} {t : Nat → ClassId} {b L : Nat} {xs : Nat → Int32} {k : Int} {sz : Nat} : FrameBlind (PcX D t b L xs k sz) := by
  intro a U g mk q
  obtain ⟨q0, q1, qK, qE, qX, qb⟩ := q
  exact ⟨q0, q1, va_K.moved (u := U) (U := U.calling g mk a) (Vm.Alike.refl U.vm) qK, qE.same rfl, va_X.moved (u := U) (U := U.calling g mk a) (Vm.Alike.refl U.vm) qX, qb⟩
abbrev rm_L_cell : Room := { frames := 0, cells := 0, slots := 0, locals := 0 }
theorem m_L_cell_7 : Cond.constant RL 7 (-1640531535) ∈ wsL_cell := by decide +kernel
theorem m_L_cell_8 : Cond.constant RL 8 2147483647 ∈ wsL_cell := by decide +kernel
set_option maxHeartbeats 4000000 in
theorem lm_cell {l : Launch} {D : va_G} {t : Nat → ClassId} {b L : Nat} {xs : Nat → Int32} (hL : L ≤ 260) {k : Int} (hk : 0 ≤ k ∧ k ≤ 1000) (sz : Nat) : Met l yL_cell wsL_cell rm_L_cell (PcX D t b L xs k sz) (QI D (va_A [] sz) (fun _ : Unit => []) (fun r _ => 0 ≤ r ∧ r ≤ 2147483647)) 0 0 (va_A [] sz) := by
  refine Met.ofW (cc := cL_cell) (maxL := 2) (ret := some .int) (by decide) rfl ?_
  intro p e s m args below meth c s₁ B hml hv
  obtain ⟨rfl, hsz, hK, hE, hX, hbl⟩ := hv
  have hts := atoms_spec (ws := wsL_cell) B.pre
  subst hsz
  have hl := lv_entry ([.ref b, .int (iI k)]) (n := 2) (Nat.le_of_ble_eq_true rfl)
  rw [lg_entry_eq]
  have hr := B.returns
  have hc : Cx p rm_L_cell s m #[.ref b, .int (iI k)] meth c D t (va_A [] s.heap.size) 2 cL_cell wsL_cell RL := ⟨B.exec, B.bytes, hml, findClass_of_methodNamed B.named, hts, hK, fun q h => Or.inr h, B.notSynchronized, hE⟩
  have hbA : ¬ va_A [] s.heap.size b := by
    rintro (⟨k9, e9, h9⟩ | h9)
    · simp at h9
    · omega
  have TAIL : ∀ (x : Int32), V p l e rm_L_cell s m #[.ref b, .int (iI k)] below meth c D (va_A [] s.heap.size) 2 0 0 (MQ below (QI D (va_A [] s.heap.size) (fun _ : Unit => []) (fun r _ => 0 ≤ r ∧ r ≤ 2147483647)) #[.ref b, .int (iI k)] s 0 0 (va_A [] s.heap.size)) 23 [(0, .ref b), (1, .int (iI k))] [.int x] [] := by
    intro x
    refine V_ldc hc m_L_cell_8 dL_cell_23 ?_
    refine V_iandx hc dL_cell_25 ?_
    exact V_iret hc hr () (and_rng x) rfl dL_cell_26
  have main : V p l e rm_L_cell s m #[.ref b, .int (iI k)] below meth c D (va_A [] s.heap.size) 2 0 0 (MQ below (QI D (va_A [] s.heap.size) (fun _ : Unit => []) (fun r _ => 0 ≤ r ∧ r ≤ 2147483647)) #[.ref b, .int (iI k)] s 0 0 (va_A [] s.heap.size)) 0 (lv_args 0 [.ref b, .int (iI k)]) [] [] := by
    refine V_lv [0, 1] [(0, .ref b), (1, .int (iI k))] rfl ?_
    refine V_iload_n hc dL_cell_0 1 rfl ?_
    refine V_aload_n hc dL_cell_1 0 rfl ?_
    refine V_slen hc hX hbl hbA dL_cell_2 ?_
    by_cases hkL : k < (L : Int)
    · refine V_icmp_ge (tgt := 12) (X := False) (Y := True) hc dL_cell_3 (by decide) ⟨by omega, by omega, fun h => absurd h (by omega), fun _ => trivial⟩ (fun h => h.elim) (fun _ => ?_)
      refine V_aload_n hc dL_cell_6 0 rfl ?_
      refine V_iload_n hc dL_cell_7 1 rfl ?_
      refine V_sld hc hX hbl hbA ⟨hk.1, hkL⟩ hL dL_cell_8 ?_
      refine V_goto (tgt := 23) hc dL_cell_9 (by decide) ?_
      exact TAIL _
    · refine V_icmp_ge (tgt := 12) (X := True) (Y := False) hc dL_cell_3 (by decide) ⟨by omega, by omega, fun _ => trivial, fun h => h (by omega)⟩ (fun _ => ?_) (fun h => h.elim)
      refine V_ldcI (n := -1640531535) hc m_L_cell_7 (by decide) dL_cell_12 ?_
      refine V_iload_n hc dL_cell_14 1 rfl ?_
      refine V_bipush hc dL_cell_15 (by decide) ?_
      refine V_iadd hc dL_cell_17 ?_
      refine V_imul hc dL_cell_18 ?_
      refine V_sipush hc dL_cell_19 (by decide) ?_
      refine V_iadd hc dL_cell_22 ?_
      exact TAIL _
  exact main s.heap [] _ hl (fun k9 q h => by simp at h) ⟨fun i j p9 q h => by simp at h, fun k9 q h => by simp at h⟩ va_S.rf
section VLC
variable {p : Program} {l : Launch} {e : Env} {R : Room} {s : State} {m : MethodId} {args : Array Value} {below : List Frame} {meth : Method} {c : Code} {D : va_G} {t : Nat → ClassId} {A : Nat → Prop} {nL : Nat} {cc : ByteArray} {Ts : List Cond} {own : String} {cells slots : Nat} {Q : State → Prop} {pc : Nat} {lv : List (Nat × Value)} {st : List Value} {ws : va_W}
theorem V_cell (hc : Cx p R s m args meth c D t A nL cc Ts own) {b L : Nat} {xs : Nat → Int32} (hX : va_X b L xs s s.heap) (hbl : b < s.heap.size) (hbA : ¬ A b) (hL : L ≤ 260) {n : Int} (hn : 0 ≤ n ∧ n ≤ 1000) {index : Nat} (hg : GoodIn Ts (va_wsS own index yL_cell wsL_cell)) (hRm : 0 + 1 ≤ R.frames ∧ 8 + (2 + 11) + 0 ≤ R.locals) (hroom : (st.map fun v => v.category).sum ≤ 8) (hd : decode cc pc = .ok (.invokestatic index, 3)) (hfit : cells + 0 ≤ R.cells ∧ slots + 0 ≤ R.slots)
    (k : ∀ (r : Int), 0 ≤ r ∧ r ≤ 2147483647 → V p l e R s m args below meth c D A nL (cells + 0) (slots + 0) Q (pc + 3) lv (.int (iI r) :: st) ws) : V p l e R s m args below meth c D A nL cells slots Q pc lv (.int (iI n) :: .ref b :: st) ws := by
  have hc0 := hc
  obtain ⟨hx, hb, hml, hown, hts, hK, hA, hlk, hE⟩ := hc
  intro H locs ls hl hP hD hS
  have hp : ws.Perm ([] ++ ws) := List.Perm.refl _
  have hFc := fz_free hD hS hA hp
  have hat : ∀ U : State, U.heap = H → s.WarmedH U.vm → PcX D t b L xs n H.size ([Value.ref b, .int (iI n)]).toArray U := by
    intro U hU hW
    refine ⟨rfl, by rw [hU], va_K.moved hW.alike hK, hE.pass hS hFc hW hU, ?_, Nat.lt_of_lt_of_le hbl hS.1⟩
    rw [hU]
    exact (hX.kept (hS.2.1 b hbl hbA)).moved hW.alike
  refine va_calli (va_runS (As := [.ref b, .int (iI n)]) (rest := st) ⟨hx, hb, hml, hown, hts⟩ (lm_cell hL hn H.size) (va_cwS 2 hts hg rfl rfl rfl ok_L_cell hRm) ⟨PcX.blind, hat⟩ rfl rfl hl.1 rfl (lv_room hroom) hd hfit) hS (fun q _ h => hFc q h) hFc (fun r u t H1 locs1 ht hvm hw hB1 hz1 hk1 hS1 => ?_)
  obtain ⟨r1, rfl, hpo⟩ := hw
  obtain ⟨hP1, hD1⟩ := hB1
  rw [ht] at hP1
  obtain ⟨hP2, hD2⟩ := fz_join hP hD hp hk1 hFc hP1 hD1
  exact k r1 hpo H1 locs1 ls hl hP2 hD2 hS1
theorem V_newObjL (hc : Cx p R s m args meth c D t A nL cc Ts own) (hF : Fx A s s.heap) {C : String} {T : u_T} {N ci ki index mc ms maxL : Nat} {y : MethodName} {bytes : ByteArray} {wsy wsy1 : List Cond} {rm : Room} {S : Type} {W1 : Nat → S → va_W} {post : S → Prop} (fs0 : List Value) (hcl : vwCl[ci]? = some (C, T, N)) (hin : ∀ w ∈ u_ws C T N, w ∈ Ts) (ty : Nat → FieldType) (hty : ∀ k, k < N → parseFieldDescriptor (T k).2.2.1 = some (ty k)) (hlink : Cond.classLink own ki C ∈ Ts) (hinst : Cond.instantiable C N ∈ Ts) (hini : Cond.initialized C ∈ Ts) (hfs : ∀ j, j < N → defaultValue (ty j) = vp_V fs0 j)
    (hM : ∀ q, MC l D t y wsy rm [.ref q] [oB q ci fs0] (W1 q) post mc ms) (hml9 : Cond.methodLink own index y ∈ Ts) (hg : GoodIn Ts wsy) (hwy : wsy = Cond.code y bytes maxL none :: wsy1) (hmr : rm.cells = mc ∧ rm.slots = ms) (hdy : y.cls = C ∧ y.name = "<init>" ∧ y.cls ≠ "java/lang/invoke/MethodHandle" ∧ y.cls ≠ "java/lang/invoke/VarHandle" ∧ (parseMethodDescriptor y.desc).map (fun d => d.parameters.length) = some 0) (him : Cond.instanceMethod y ∈ Ts) (hRm : rm.frames + 1 ≤ R.frames ∧ 8 + (maxL + 11) + rm.locals ≤ R.locals) (hroom : (st.map fun v => v.category).sum ≤ 7)
    (d0 : decode cc pc = .ok (.new ki, 3)) (d1 : decode cc (pc + 3) = .ok (.dup, 1)) (d2 : decode cc (pc + 4) = .ok (.invokespecial index, 3)) (hfit : cells + (mc + 1) ≤ R.cells ∧ slots + (ms + N) ≤ R.slots)
    (k : ∀ (q : Nat) (u : S), post u → V p l e R s m args below meth c D A nL (cells + (mc + 1)) (slots + (ms + N)) Q (pc + 7) lv (.ref q :: st) (W1 q u ++ ws)) : V p l e R s m args below meth c D A nL cells slots Q pc lv st ws := by
  have hc0 := hc
  obtain ⟨hx, hb, hml, hown, hts, hK, hA, hlk, hE⟩ := hc
  intro H locs ls hl hP hD hS
  refine va_new hx hb hts hin ty hty hown (hts _ hlink) (hts _ hinst) (hts _ hini) hK hP hD hS hA hcl hfs (by omega) (by omega) d0 (fun q H1 hP1 hD1 hS1 => ?_)
  refine lv_dup hx hb d1 rfl ?_
  have hp : (ws ++ [oB q ci fs0]).Perm ([oB q ci fs0] ++ ws) := List.perm_append_comm
  have hFc := fz_free hD1 hS1 hA hp
  have hiy : (Cond.initialized y.cls).before args s = true := by rw [hdy.1]; exact hts _ hini
  have hat : ∀ U : State, U.heap = H1 → s.WarmedH U.vm → PcF D t [.ref q] [oB q ci fs0] H1.size ([Value.ref q]).toArray U := by
    intro U hU hW
    obtain ⟨a1, a2, a3, a4, a5, a6⟩ := PcE.at hc0 hP1 hD1 hS1 hp [.ref q] U hU hW
    exact ⟨a1, a2, a3, a4, a5, a6, hF.pass hS1 hFc hW hU⟩
  refine va_callv (va_runI (As := []) (rest := .ref q :: st) ⟨hx, hb, hml, hown, hts⟩ (hM q H1.size) (cwI 0 hts hg hwy hmr.1 hmr.2 hiy (hts _ hml9) (hts _ him) hdy.2.1 ⟨hdy.2.2.1, hdy.2.2.2.1, hdy.2.2.2.2⟩ hRm) ⟨PcF.blind, hat⟩ rfl rfl hl.1 rfl (lv_room (by simp only [List.map_cons, List.sum_cons]; show 1 + _ ≤ 8; omega)) d2 ⟨by omega, by omega⟩) hS1 (fun q _ h => hFc q h) hFc (fun u t H2 locs1 ht hvm hw hB1 hz1 hk1 hS2 => ?_)
  obtain ⟨hP9, hD9⟩ := hB1
  rw [ht] at hP9
  obtain ⟨hP2, hD2⟩ := fz_join hP1 hD1 hp hk1 hFc hP9 hD9
  have h9 := k q u hw H2 locs1 ls hl hP2 hD2 hS2
  rw [show cells + (mc + 1) = cells + 1 + mc by omega, show slots + (ms + N) = slots + N + ms by omega] at h9
  exact h9
end VLC
/-! the first state in cells -/
def uC0 : Nat → Nat → Int := fun c => match c with | 14 => ta_FIRST_VALUES | _ => z0
def aC0 (a b : Nat → Nat) : Nat → Nat := fun i => if i < 14 then a i else b (i - 14)
theorem cT0 (k d m : Nat → Int) : ab_cT 0 k d m [] (fun _ => 0) := ⟨rfl, fun i x dx h => by
  have h : ([] : List (Int × Int))[i]? = some (x, dx) := h
  cases h⟩
theorem CREL0 (sv nv : Nat → Nat → Nat → Int) : CREL uC0 sv nv σ0 := by
  refine ⟨⟨cT0 _ _ _, ⟨cT0 _ _ _, rfl, rfl, rfl, rfl, fun i x h => (by cases h), fun i x h => (by cases h)⟩, fun i _ => rfl, fun i _ => rfl⟩, ⟨rfl, Nat.zero_le _, fun i A h => (by cases h)⟩, fun i hi => ⟨Or.inl rfl, ⟨fun _ => rfl, fun _ => rfl⟩, fun A h => (by cases h)⟩, ab_CT_nil⟩
theorem CW0 (t : Nat → ClassId) (hB : Nat) (u : (Nat → Nat) × (Nat → Nat) × (Nat → Nat → Nat) × (Nat → Nat → Nat)) : CW t hB (W1_X4_init t hB u) σ0 := by
  refine ⟨aC0 u.2.1 u.1, uC0, u.2.2.1, u.2.2.2, fun _ => u0, fun _ => u0, ?_, CREL0 _ _⟩
  refine List.Perm.append_right _ ?_
  exact pmI (ws1 := LC t hB (aC0 u.2.1 u.1) uC0 u.2.2.1 u.2.2.2) [0, 15, 16, 17, 18, 19, 20, 21, 22, 23, 24, 25, 26, 27, 28, 1, 2, 3, 4, 5, 6, 7, 8, 9, 10, 11, 12, 13, 14] 29 rfl (by decide) rfl
/-- what the law's loop keeps of its object -/
def Zi (n : Nat) (σ : aW) : Prop := ivE σ ∧ jr_I σ.1 ∧ (as_T σ.1).1.length ≤ n ∧ σ.2.1.length ≤ 6 ∧ σ.2.2.2 = [] ∧ σ.2.2.1 1 = some A0
theorem save_len {S : List aS} {A : aS} (h : S.length ≤ 6) : (S.length < 6 → ((ab_save S A).length : Int) = (S.length : Int) + 1) ∧ (¬ S.length < 6 → ((ab_save S A).length : Int) = 6) ∧ (ab_save S A).length ≤ 6 := by
  have h9 := ab_save_len (A := A) h
  split at h9
  · exact ⟨fun q => by omega, fun q => by omega, by omega⟩
  · exact ⟨fun q => by omega, fun q => by omega, by omega⟩
theorem save_last {S : List aS} {A : aS} : (ab_save S A).getLast? = some A := by
  unfold ab_save
  rw [List.getLast?_append]
  rfl
theorem save_drop {S : List aS} {A : aS} (h : S.length ≤ 6) : (ab_save S A).dropLast.length ≤ 6 := by
  rw [List.length_dropLast]
  have := (save_len (A := A) h).2.2
  omega
