/-! constructors: what they may take as given besides; the contract of a constructor; new objects and arrays -/
def Fx (A : Nat → Prop) (U : State) (H : Heap) : Prop :=
  va_AO RX2 U ∧ va_Nw (.fieldLinkNest RX2 25 RX4 "FIRST_VALUES" "[I" RX4) U ∧
  ∃ (a : Nat) (cell : Cell), va_Z RX4 "FIRST_VALUES" "[I" (.ref a) A U H ∧ H[a]? = some cell ∧ U.vm.findClass "[I" = some cell.cls ∧ cell.slots = (arrV cell.cls 3 (fun k => .int (iI (ta_FIRST_VALUES k)))).slots ∧ (∀ k, cell.vm ≠ .statics k) ∧ cell.vm ≠ .unknown ∧ ¬ A a
theorem Fx.pass {A B : Nat → Prop} {s U : State} {H : Heap} {locs : List Loc} (h : Fx A s s.heap) (hS : va_S A s.heap H locs) (hB : ∀ q, B q → A q) (hW : s.WarmedH U.vm) (hU : U.heap = H) : Fx B U U.heap := by
  obtain ⟨h1, h2, a, cell, h3, h4, h5, h6, h7, h8, h9⟩ := h
  have hq : ∀ a : Nat, a < s.heap.size → ¬ A a → H[a]? = s.heap[a]? := fun a x y => hS.2.1 a x y
  rw [hU]
  refine ⟨h1.moved hW.alike, h2.warmF hW, a, cell, ((h3.kept hq).narrow hB).moved hW.alike, ?_, ?_, h6, h7, h8, fun z => h9 (hB a z)⟩
  · rw [hq a (Array.getElem?_eq_some_iff.mp h4).1 h9]
    exact h4
  · rw [hW.alike.findClass]
    exact h5
theorem Fx.same {A : Nat → Prop} {U U' : State} {H : Heap} (h : Fx A U H) (hv : U'.vm = U.vm) : Fx A U' H := by
  obtain ⟨h1, h2, a, cell, h3, h4, h5, h6, h7, h8, h9⟩ := h
  have ha : U.vm.Alike U'.vm := by rw [hv]; exact Vm.Alike.refl _
  refine ⟨h1.moved ha, h2.same rfl hv.symm, a, cell, h3.moved ha, h4, by rw [hv]; exact h5, h6, h7, h8, h9⟩
def PcF (D : va_G) (t : Nat → ClassId) (av : List Value) (W0 : va_W) (sz : Nat) : Array Value → State → Prop := va_Pc av (fun U => U.heap.size = sz ∧ va_P D vwCl W0 U.heap ∧ va_K D vwCl (tyL t) U ∧ va_D (fun _ => True) W0 ∧ Ev (va_A W0 sz) U U.heap ∧ Fx (va_A W0 sz) U U.heap)
theorem PcF.blind {D : va_G} {t : Nat → ClassId} {av : List Value} {W0 : va_W} {sz : Nat} : FrameBlind (PcF D t av W0 sz) := by
  intro a U g mk q
  obtain ⟨q0, q1, qP, qK, qD, qE, qF⟩ := q
  exact ⟨q0, q1, qP, va_K.moved (u := U) (U := U.calling g mk a) (Vm.Alike.refl U.vm) qK, qD, qE.same rfl, qF.same rfl⟩
def MC (l : Launch) (D : va_G) (t : Nat → ClassId) (y : MethodName) (wsy : List Cond) (rm : Room) (av : List Value) (W0 : va_W) {S : Type} (W1 : S → va_W) (post : S → Prop) (mc ms : Nat) : Prop := ∀ sz, Met l y wsy rm (PcF D t av W0 sz) (QV D (va_A W0 sz) W1 post) mc ms (va_A W0 sz)
theorem M_ofc {l : Launch} {D : va_G} {t : Nat → ClassId} {y : MethodName} {wsy wsy1 : List Cond} {rm : Room} {av : List Value} {W0 : va_W} {S : Type} {W1 : S → va_W} {post : S → Prop} {mc ms nL : Nat} {cc : ByteArray} (hy : plainName y.cls = true) (hn : y.name = "<init>") (hw : wsy = Cond.code y cc nL none :: wsy1) (hlen : (lg_sl av).length ≤ nL)
    (body : ∀ (p : Program) (e : Env) (s : State) (m : MethodId) (args : Array Value) (below : List Frame) (meth : Method) (c : Code) (A : Nat → Prop), Cx p rm s m args meth c D t A nL cc wsy y.cls → Fx A s s.heap → meth.name = "<init>" → meth.sig.returnType = none → V p l e rm s m args below meth c D A nL 0 0 (MQ below (QV D A W1 post) args s mc ms A) 0 (lv_args 0 av) [] W0) : MC l D t y wsy rm av W0 W1 post mc ms := by
  intro sz
  refine Met.ofW (cc := cc) (maxL := nL) (ret := none) hy hw ?_
  intro p e s m args below meth c s₁ B hml hv
  obtain ⟨rfl, hsz, hP, hK, hD0, hE, hF⟩ := hv
  have hts := atoms_spec (ws := wsy) B.pre
  subst hsz
  have hl := lv_entry av hlen
  have hnm : meth.name = "<init>" := (name_of_methodNamed B.named B.method).1.trans hn
  rw [lg_entry_eq]
  exact body p e s m _ below meth c (va_A W0 s.heap.size) ⟨B.exec, B.bytes, hml, findClass_of_methodNamed B.named, hts, hK, fun q h => Or.inr h, B.notSynchronized, hE⟩ hF hnm B.returns s.heap [] _ hl hP hD0.self va_S.rf
section VRC
variable {p : Program} {l : Launch} {e : Env} {R : Room} {s : State} {m : MethodId} {args : Array Value} {below : List Frame} {meth : Method} {c : Code} {D : va_G} {t : Nat → ClassId} {A : Nat → Prop} {nL : Nat} {cc : ByteArray} {Ts : List Cond} {own : String} {cells slots : Nat} {Q : State → Prop} {pc : Nat} {lv : List (Nat × Value)} {st : List Value} {ws : va_W}
theorem V_pm {ws1 : va_W} (h : ws.Perm ws1) (k : V p l e R s m args below meth c D A nL cells slots Q pc lv st ws1) : V p l e R s m args below meth c D A nL cells slots Q pc lv st ws := fun H locs ls hl hP hD hS => k H locs ls hl (hP.pm h) (hD.pm h) hS
theorem V_weq {ws1 : va_W} (h : ws = ws1) (k : V p l e R s m args below meth c D A nL cells slots Q pc lv st ws1) : V p l e R s m args below meth c D A nL cells slots Q pc lv st ws := h ▸ k
theorem V_objInit (hc : Cx p R s m args meth c D t A nL cc Ts own) {i a : Nat} (h1 : Cond.methodLink own i objectInit ∈ Ts) (h2 : Cond.instanceMethod objectInit ∈ Ts) (h3 : Cond.code objectInit ⟨#[0xb1]⟩ 1 none ∈ Ts) (hd : decode cc pc = .ok (.invokespecial i, 3)) (hf : 1 ≤ R.frames) (hlo : (st.map fun v => v.category).sum + 12 ≤ R.locals) (k : V p l e R s m args below meth c D A nL cells slots Q (pc + 3) lv st ws) : V p l e R s m args below meth c D A nL cells slots Q pc lv (.ref a :: st) ws := by
  obtain ⟨hx, hb, hml, hown, hts, hK, hA, hlk, hE⟩ := hc
  intro H locs ls hl hP hD hS
  refine W.objInit hx hb hown (hts _ h1) (hts _ h2) (hts _ h3) rfl (by rw [hml]; exact hl.1) rfl hd hf (by show 2 * 0 + _ + 12 ≤ _; omega) ?_
  exact W.eq (g2 := F0 m (pc + 3) ls st) rfl (k H locs ls hl hP hD hS)
theorem nn_iI {n : Nat} (h : n < 2147483648) : ¬ iI (n : Int) < 0 ∧ (iI (n : Int)).toNatClampNeg = n := by
  refine ⟨fun q => ?_, ?_⟩
  · rw [← iI_0, iI_lt (by omega) (by omega)] at q
    omega
  · rw [iI_cl (by omega)]
    omega
theorem V_newi (hc : Cx p R s m args meth c D t A nL cc Ts own) {n : Nat} (h1 : Cond.arrayClass .int ∈ Ts) (hn : n < 100000) (hd : decode cc pc = .ok (.newarray .int, 2)) (hfit : cells + 1 ≤ R.cells ∧ slots + n ≤ R.slots) (k : ∀ q : Nat, V p l e R s m args below meth c D A nL (cells + 1) (slots + n) Q (pc + 2) lv (.ref q :: st) (ws ++ [aI t q n (fun _ => 0)])) : V p l e R s m args below meth c D A nL cells slots Q pc lv (.int (iI (n : Int)) :: st) ws := by
  obtain ⟨hx, hb, hml, hown, hts, hK, hA, hlk, hE⟩ := hc
  intro H locs ls hl hP hD hS
  refine va_newa (atype := .int) (ty := .int) (N' := n) (a0 := (n, .inl (iA (fun _ => 0)))) hx hb (hts _ h1) rfl hK hP hD hS hA (fun cA => rfl) (nn_iI (by omega)).1 (nn_iI (by omega)).2 (by show n * 4 ≤ _; omega) hfit.1 hfit.2 hd (fun q cA H1 hK1 hP1 hD1 hS1 => ?_)
  have e1 : s.vm.findClass ("[" ++ (FieldType.int).toString) = some cA := (hK1.2 4 (cA, .int) rfl).2
  have e2 : s.vm.findClass ("[" ++ (FieldType.int).toString) = some (t 0) := (hK.2 0 (t 0, .int) rfl).2
  cases e1.symm.trans e2
  exact k q H1 locs ls hl hP1 hD1 hS1
theorem V_newz (hc : Cx p R s m args meth c D t A nL cc Ts own) {n : Nat} (h1 : Cond.arrayClass .boolean ∈ Ts) (hn : n < 100000) (hd : decode cc pc = .ok (.newarray .boolean, 2)) (hfit : cells + 1 ≤ R.cells ∧ slots + n ≤ R.slots) (k : ∀ q : Nat, V p l e R s m args below meth c D A nL (cells + 1) (slots + n) Q (pc + 2) lv (.ref q :: st) (ws ++ [aZ t q n (fun _ => 0)])) : V p l e R s m args below meth c D A nL cells slots Q pc lv (.int (iI (n : Int)) :: st) ws := by
  obtain ⟨hx, hb, hml, hown, hts, hK, hA, hlk, hE⟩ := hc
  intro H locs ls hl hP hD hS
  refine va_newa (atype := .boolean) (ty := .boolean) (N' := n) (a0 := (n, .inl (iA (fun _ => 0)))) hx hb (hts _ h1) rfl hK hP hD hS hA (fun cA => rfl) (nn_iI (by omega)).1 (nn_iI (by omega)).2 (by show n * 1 ≤ _; omega) hfit.1 hfit.2 hd (fun q cA H1 hK1 hP1 hD1 hS1 => ?_)
  have e1 : s.vm.findClass ("[" ++ (FieldType.boolean).toString) = some cA := (hK1.2 4 (cA, .boolean) rfl).2
  have e2 : s.vm.findClass ("[" ++ (FieldType.boolean).toString) = some (t 1) := (hK.2 1 (t 1, .boolean) rfl).2
  cases e1.symm.trans e2
  exact k q H1 locs ls hl hP1 hD1 hS1
theorem V_newc (hc : Cx p R s m args meth c D t A nL cc Ts own) {n : Nat} (h1 : Cond.arrayClass .char ∈ Ts) (hn : n < 100000) (hd : decode cc pc = .ok (.newarray .char, 2)) (hfit : cells + 1 ≤ R.cells ∧ slots + n ≤ R.slots) (k : ∀ q : Nat, V p l e R s m args below meth c D A nL (cells + 1) (slots + n) Q (pc + 2) lv (.ref q :: st) (ws ++ [aC t q n (fun _ => 0)])) : V p l e R s m args below meth c D A nL cells slots Q pc lv (.int (iI (n : Int)) :: st) ws := by
  obtain ⟨hx, hb, hml, hown, hts, hK, hA, hlk, hE⟩ := hc
  intro H locs ls hl hP hD hS
  refine va_newa (atype := .char) (ty := .char) (N' := n) (a0 := (n, .inl (iA (fun _ => 0)))) hx hb (hts _ h1) rfl hK hP hD hS hA (fun cA => rfl) (nn_iI (by omega)).1 (nn_iI (by omega)).2 (by show n * 2 ≤ _; omega) hfit.1 hfit.2 hd (fun q cA H1 hK1 hP1 hD1 hS1 => ?_)
  have e1 : s.vm.findClass ("[" ++ (FieldType.char).toString) = some cA := (hK1.2 4 (cA, .char) rfl).2
  have e2 : s.vm.findClass ("[" ++ (FieldType.char).toString) = some (t 2) := (hK.2 2 (t 2, .char) rfl).2
  cases e1.symm.trans e2
  exact k q H1 locs ls hl hP1 hD1 hS1
theorem V_newq (hc : Cx p R s m args meth c D t A nL cc Ts own) (hF : Fx A s s.heap) {n index : Nat} (h1 : Cond.classLink own index RX2 ∈ Ts) (hn : n < 100000) (hd : decode cc pc = .ok (.anewarray index, 3)) (hfit : cells + 1 ≤ R.cells ∧ slots + n ≤ R.slots) (k : ∀ q : Nat, V p l e R s m args below meth c D A nL (cells + 1) (slots + n) Q (pc + 3) lv (.ref q :: st) (ws ++ [aQ t q n (fun _ => none)])) : V p l e R s m args below meth c D A nL cells slots Q pc lv (.int (iI (n : Int)) :: st) ws := by
  obtain ⟨hx, hb, hml, hown, hts, hK, hA, hlk, hE⟩ := hc
  intro H locs ls hl hP hD hS
  refine va_newq (N' := n) hx hb hown (hts _ h1) hF.1 hK hP hD hS hA (nn_iI (by omega)).1 (nn_iI (by omega)).2 (by omega) hfit.1 hfit.2 hd (fun q cA H1 hK1 hP1 hD1 hS1 => ?_)
  obtain ⟨_, _, _, _, _, e1⟩ := (hK1.2 4 (cA, .object RX2) rfl).2
  obtain ⟨_, _, _, _, _, e2⟩ := (hK.2 3 (t 3, .object RX2) rfl).2
  cases e1.symm.trans e2
  exact k q H1 locs ls hl hP1 hD1 hS1
theorem V_putF (hc : Cx p R s m args meth c D t A nL cc Ts own) (hnm0 : meth.name = "<init>") {C : String} {T : u_T} {N ci index a x : Nat} (hin : ∀ w ∈ u_ws C T N, w ∈ Ts) (q0 : Nat) {fs : List Value} (he : ws[q0]? = some (a, .inr (ci, fs))) (hcl : vwCl[ci]? = some (C, T, N)) (f : Nat) (hf : f < N) (hlink : Cond.fieldLink own index (T f).1 (T f).2.1 (T f).2.2.1 ∈ Ts) (ty0 : Nat → FieldType) (hty : ∀ k, k < N → parseFieldDescriptor (T k).2.2.1 = some (ty0 k)) (hnm : ∀ a, a < N → ∀ b, b < N → a ≠ b → (T a).2.1 ≠ (T b).2.1) (hfin : (T f).2.2.2 = true) (hdecl : (T f).1 = own) {ty : FieldType} (hde : parseFieldDescriptor (T f).2.2.1 = some ty) (hna : narrow ty (.ref x) = .ref x) (hfi : fits ty (.ref x) = true) (hfl : f < fs.length) (hd : decode cc pc = .ok (.putfield index, 3)) (ws1 : va_W) (hw : ws.set q0 (a, .inr (ci, fs.set f (.ref x))) = ws1) (k : V p l e R s m args below meth c D A nL cells slots Q (pc + 3) lv st ws1) : V p l e R s m args below meth c D A nL cells slots Q pc lv (.ref x :: .ref a :: st) ws := by
  obtain ⟨hx, hb, hml, hown, hts, hK, hA, hlk, hE⟩ := hc
  intro H locs ls hl hP hD hS
  subst hw
  exact va_putF hx hb hts hin ty0 hty hnm hown hK hP hD hS q0 he hcl f hf (hts _ hlink) (fun _ h9 => h9) hfin hnm0 hdecl hde hna hfi hfl hd (fun H1 locs1 hP1 hD1 hS1 => k H1 locs1 ls hl hP1 hD1 hS1)
theorem V_newObj (hc : Cx p R s m args meth c D t A nL cc Ts own) (hF : Fx A s s.heap) {C : String} {T : u_T} {N ci ki index mc ms : Nat} {y : MethodName} {bytes : ByteArray} {wsy wsy1 : List Cond} {rm : Room} {S : Type} {W1 : Nat → S → va_W} {post : S → Prop} (fs0 : List Value) (hcl : vwCl[ci]? = some (C, T, N)) (hin : ∀ w ∈ u_ws C T N, w ∈ Ts) (ty : Nat → FieldType) (hty : ∀ k, k < N → parseFieldDescriptor (T k).2.2.1 = some (ty k)) (hlink : Cond.classLink own ki C ∈ Ts) (hinst : Cond.instantiable C N ∈ Ts) (hini : Cond.initialized C ∈ Ts) (hfs : ∀ j, j < N → defaultValue (ty j) = vp_V fs0 j)
    (hM : ∀ q, MC l D t y wsy rm [.ref q] [oB q ci fs0] (W1 q) post mc ms) (hnest : (own, index, y) ∈ evNest) (hg : GoodIn Ts wsy) (hwy : wsy = Cond.code y bytes 1 none :: wsy1) (hmr : rm.cells = mc ∧ rm.slots = ms) (hdy : y.cls = C ∧ y.name = "<init>" ∧ y.cls ≠ "java/lang/invoke/MethodHandle" ∧ y.cls ≠ "java/lang/invoke/VarHandle" ∧ (parseMethodDescriptor y.desc).map (fun d => d.parameters.length) = some 0) (him : Cond.instanceMethod y ∈ Ts) (hRm : rm.frames + 1 ≤ R.frames ∧ 8 + (1 + 11) + rm.locals ≤ R.locals) (hroom : (st.map fun v => v.category).sum ≤ 7)
    (d0 : decode cc pc = .ok (.new ki, 3)) (d1 : decode cc (pc + 3) = .ok (.dup, 1)) (d2 : decode cc (pc + 4) = .ok (.invokespecial index, 3)) (hfit : cells + (mc + 1) ≤ R.cells ∧ slots + (ms + N) ≤ R.slots)
    (k : ∀ (q : Nat) (u : S), post u → V p l e R s m args below meth c D A nL (cells + (mc + 1)) (slots + (ms + N)) Q (pc + 7) lv (.ref q :: st) (W1 q u ++ ws)) : V p l e R s m args below meth c D A nL cells slots Q pc lv st ws := by
  have hc0 := hc
  obtain ⟨hx, hb, hml, hown, hts, hK, hA, hlk, hE⟩ := hc
  intro H locs ls hl hP hD hS
  refine va_new hx hb hts hin ty hty hown (hts _ hlink) (hts _ hinst) (hts _ hini) hK hP hD hS hA hcl hfs (by omega) (by omega) d0 (fun q H1 hP1 hD1 hS1 => ?_)
  refine lv_dup hx hb d1 rfl ?_
  have hp : (ws ++ [oB q ci fs0]).Perm ([oB q ci fs0] ++ ws) := List.perm_append_comm
  have hFc := fz_free hD1 hS1 hA hp
  have hnw : va_Nw (.methodLinkNest own index y RX4) s := hE.2.2.2.2.1 _ hnest
  have hiy : (Cond.initialized y.cls).before args s = true := by rw [hdy.1]; exact hts _ hini
  have hat : ∀ U : State, U.heap = H1 → s.WarmedH U.vm → PcF D t [.ref q] [oB q ci fs0] H1.size ([Value.ref q]).toArray U := by
    intro U hU hW
    obtain ⟨a1, a2, a3, a4, a5, a6⟩ := PcE.at hc0 hP1 hD1 hS1 hp [.ref q] U hU hW
    exact ⟨a1, a2, a3, a4, a5, a6, hF.pass hS1 hFc hW hU⟩
  refine va_callv (va_runIN (As := []) (rest := .ref q :: st) ⟨hx, hb, hml, hown, hts⟩ (hM q H1.size) ⟨va_cnB 0 hts hg hwy hmr.1 hmr.2 hnw hiy ⟨hdy.2.2.1, hdy.2.2.2.1, hdy.2.2.2.2⟩ hRm, hdy.2.1, hts _ him⟩ ⟨PcF.blind, hat⟩ rfl rfl hl.1 rfl (lv_room (by simp only [List.map_cons, List.sum_cons]; show 1 + _ ≤ 8; omega)) d2 ⟨by omega, by omega⟩) hS1 (fun q _ h => hFc q h) hFc (fun u t H2 locs1 ht hvm hw hB1 hz1 hk1 hS2 => ?_)
  obtain ⟨hP9, hD9⟩ := hB1
  rw [ht] at hP9
  obtain ⟨hP2, hD2⟩ := fz_join hP1 hD1 hp hk1 hFc hP9 hD9
  have h9 := k q u hw H2 locs1 ls hl hP2 hD2 hS2
  rw [show cells + (mc + 1) = cells + 1 + mc by omega, show slots + (ms + N) = slots + N + ms by omega] at h9
  exact h9
theorem fits_iA3 (cA : ClassId) (f : Nat → Int) (i : Nat) (v : Value) (hv : (arrV cA 3 (fun k => .int (iI (f k)))).slots[i]? = some v) : fits .int v = true := by
  unfold arrV at hv
  simp only [Array.getElem?_ofFn] at hv
  split at hv
  · cases hv
    rfl
  · cases hv
theorem V_fv (hc : Cx p R s m args meth c D t A nL cc Ts RX2) (hF : Fx A s s.heap) (h1 : Cond.methodLink RX2 29 ⟨"[I", "clone", "()Ljava/lang/Object;"⟩ ∈ Ts) (h2 : Cond.sameMethod "[I" "java/lang/Object" "clone" "()Ljava/lang/Object;" ∈ Ts) (h3 : Cond.native ⟨"java/lang/Object", "clone", "()Ljava/lang/Object;"⟩ ∈ Ts) (h4 : Cond.instanceMethod ⟨"java/lang/Object", "clone", "()Ljava/lang/Object;"⟩ ∈ Ts) (h5 : Cond.selects "[I" ⟨"[I", "clone", "()Ljava/lang/Object;"⟩ ⟨"java/lang/Object", "clone", "()Ljava/lang/Object;"⟩ ∈ Ts) (h6 : Cond.classLink RX2 30 "[I" ∈ Ts)
    (d0 : decode cc pc = .ok (.getstatic 25, 3)) (d1 : decode cc (pc + 3) = .ok (.invokevirtual 29, 3)) (d2 : decode cc (pc + 6) = .ok (.checkcast 30, 3)) (hfr : 1 ≤ R.frames) (hlo : (st.map fun v => v.category).sum + 14 ≤ R.locals) (hfit : cells + 1 ≤ R.cells ∧ slots + 3 ≤ R.slots)
    (k : ∀ q : Nat, V p l e R s m args below meth c D A nL (cells + 1) (slots + 3) Q (pc + 9) lv (.ref q :: st) (ws ++ [aI t q 3 ta_FIRST_VALUES])) : V p l e R s m args below meth c D A nL cells slots Q pc lv st ws := by
  have hc0 := hc
  obtain ⟨hx, hb, hml, hown, hts, hK, hA, hlk, hE⟩ := hc
  obtain ⟨hAO, hnw, a, cell, hz, g1, g2, g3, g4, g5, g6⟩ := hF
  have e2 : s.vm.findClass "[I" = some (t 0) := (hK.2 0 (t 0, .int) rfl).2
  have ec : cell.cls = t 0 := Option.some.inj (g2.symm.trans e2)
  intro H locs ls hl hP hD hS
  have hcH : H[a]? = some cell := by rw [hS.2.1 a (Array.getElem?_eq_some_iff.mp g1).1 g6]; exact g1
  refine va_getsN hx hb hz hS hown (va_Nw.use rfl hnw) (fun _ h9 => h9) d0 ?_
  obtain ⟨c0, t0', f1, f2, f3⟩ := Cond.castable_spec (va_Nw.use (A := args) rfl (hE.2.2.2.2.2.1 ("[I", "java/lang/Cloneable") List.mem_cons_self))
  cases g2.symm.trans f1
  intro T hT X
  obtain ⟨-, kA, hkA, comp, hkind⟩ := State.isArrayOf_alike X.warmed.alike ((hK.2 0 (t 0, .int) rfl).1 0 (fun _ => .null))
  obtain ⟨-, kS, hkS, compS, hkindS⟩ := (hK.2 0 (t 0, .int) rfl).1 0 (fun _ => .null)
  have hslots : (arrV cell.cls 3 (fun k => .int (iI (ta_FIRST_VALUES k)))).slots.size = 3 := arrV_size _ _ _
  obtain ⟨vm', X', st9⟩ := X.cloneArray hx hown (hts _ h1) (hts _ h2) (hts _ h3) (hts _ h4) (hts _ h5) (a := a) (cell := cell) (by rw [hT]; exact hcH) g4 g5 g2 f2 f3
    (fun i v hv => by
      rw [ec]
      have hk' : T.vm.classes[t 0]? = some kA := hkA
      rw [g3] at hv
      simpa [State.fitsSlot, State.slotType?, hk', hkind] using fits_iA3 _ _ i v hv)
    (g := F0 m (pc + 3) ls (.ref a :: st)) rfl (by rw [hml]; exact hl.1) rfl (by rw [hb]; exact d1) hfr (by show 2 * 0 + _ + 14 ≤ _; omega) hfit.1 (by rw [g3, hslots]; exact hfit.2) (hloader := by rw [ec]; exact Vm.clonesLoader_of_array hkS hkindS)
  have ecell : ({ cls := cell.cls, slots := cell.slots } : Cell) = vp_cell (t 0) (3, .inl (iA ta_FIRST_VALUES)) := by
    rw [g3, ec]
    rfl
  have esz : cell.slots.size = 3 := by rw [g3, hslots]
  rw [ecell, esz] at X'
  generalize hH1 : H.push (vp_cell (t 0) (3, .inl (iA ta_FIRST_VALUES))) = H1
  have z1 : H1.size = H.size + 1 := by rw [← hH1, Array.size_push]
  have e1 : H1[H.size]? = some (vp_cell (t 0) (3, .inl (iA ta_FIRST_VALUES))) := by rw [← hH1, Array.getElem?_push_size]
  have o1 : ∀ q : Nat, q < H.size → H1[q]? = H[q]? := fun q hq => by rw [← hH1, Array.getElem?_push, if_neg (Nat.ne_of_lt hq)]
  have hk : ∀ (k : Nat) (y : Nat × va_E), ws[k]? = some y → H1[y.1]? = H[y.1]? := fun k y hy => o1 y.1 ((hP k y hy).lt)
  have hP1 : va_P D vwCl (ws ++ [aI t H.size 3 ta_FIRST_VALUES]) H1 := (hP.kept hk).app (fun k y hy => by
      have hz : k < 1 := (List.getElem?_eq_some_iff.mp hy).1
      rw [show k = 0 by omega] at hy
      cases hy
      exact e1)
  have hD1 : va_D A (ws ++ [aI t H.size 3 ta_FIRST_VALUES]) := hD.push hP rfl (hA _ hS.1)
  have hS1 : va_S A s.heap H1 locs := ⟨Nat.le_trans hS.1 (by omega), fun y h1 h2 => (o1 y (Nat.lt_of_lt_of_le h1 hS.1)).trans (hS.2.1 y h1 h2), hS.2.2⟩
  have hgo : W p l e R s m args below meth c H1 locs (cells + 1) (slots + 3) Q (F0 m (pc + 6) ls (.ref H.size :: st)) := va_castA (nm := "[I") hx hb hown (hts _ h6) hP1 ws.length (List.getElem?_concat_length) e2 d2 (k H.size H1 locs ls hl hP1 hD1 hS1)
  obtain ⟨t9, b1, b2⟩ := hgo ((T.setVm vm').pushCell (vp_cell (t 0) (3, .inl (iA ta_FIRST_VALUES)))) (by rw [← hH1, ← hT]; rfl) X'
  refine ⟨t9, st9 t9 ?_, b2⟩
  rw [ecell, hT]
  exact b1
end VRC
