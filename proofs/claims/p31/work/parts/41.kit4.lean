/-! the law's kit: calls of the class' face, of the law's own methods, longs -/
theorem iI_x (x : Int32) : iI x.toInt = x := Int32.ofInt_toInt x
theorem inR_x (x : Int32) : inR x.toInt := ⟨by have := Int32.le_toInt x; omega, by have := Int32.toInt_lt x; omega⟩
def xc10 (o : Int) : Int := if o = 1 then -11 else -12
def xc1 (_ : Int) : Int := -11
def xcS (_ : Int) : Int := -12
def xc20 (o : Int) : Int := if o = 1 then -10 else -11
def xc2 (_ : Int) : Int := -10
/-- what the law's call and ask answer: the answer, or the number of what was thrown -/
def cR (ok : Int → aW → Prop) (rf : Int → Prop) (cx : Int → Int) (σ : aW) (r : Int) (σ1 : aW) : Prop := ok r σ1 ∨ ∃ o, rf o ∧ r = cx o ∧ σ1 = σ
abbrev idW (u : va_W) : va_W := u
abbrev po_L (t : Nat → ClassId) (hB : Nat) (R : Int → aW → Prop) (r : Int) (u : va_W) : Prop := ∃ σ1, R r σ1 ∧ CW t hB u σ1
abbrev QL (D : va_G) (A : Nat → Prop) {S : Type} (W1 : S → va_W) (post : Int64 → S → Prop) : Array Value → State → Outcome → State → Prop := va_Ql post (fun u T => va_P D vwCl (W1 u) T.heap ∧ va_D A (W1 u)) A
def MWl (l : Launch) (D : va_G) (t : Nat → ClassId) (y : MethodName) (wsy : List Cond) (rm : Room) (av : List Value) (W0 : va_W) {S : Type} (W1 : S → va_W) (post : Int64 → S → Prop) (mc ms : Nat) : Prop := ∀ sz, Met l y wsy rm (PcG D t av W0 sz) (QL D (va_A W0 sz) W1 post) mc ms (va_A W0 sz)
theorem M_ofgi {l : Launch} {D : va_G} {t : Nat → ClassId} {y : MethodName} {wsy wsy1 : List Cond} {rm : Room} {av : List Value} {W0 : va_W} {S : Type} {W1 : S → va_W} {post : Int → S → Prop} {mc ms nL : Nat} {cc : ByteArray} (hy : plainName y.cls = true) (hw : wsy = Cond.code y cc nL (some .int) :: wsy1) (hlen : (lg_sl av).length ≤ nL)
    (body : ∀ (p : Program) (e : Env) (s : State) (m : MethodId) (args : Array Value) (below : List Frame) (meth : Method) (c : Code) (A : Nat → Prop), Cx p rm s m args meth c D t A nL cc wsy y.cls → Gx s → meth.sig.returnType = (some .int) → V p l e rm s m args below meth c D A nL 0 0 (MQ below (QI D A W1 post) args s mc ms A) 0 (lv_args 0 av) [] W0) : MWi l D t y wsy rm av W0 W1 post mc ms := by
  intro sz
  refine Met.ofW (cc := cc) (maxL := nL) (ret := (some .int)) hy hw ?_
  intro p e s m args below meth c s₁ B hml hv
  obtain ⟨rfl, hsz, hP, hK, hD0, hE, hG⟩ := hv
  have hts := atoms_spec (ws := wsy) B.pre
  subst hsz
  have hl := lv_entry av hlen
  rw [lg_entry_eq]
  exact body p e s m _ below meth c (va_A W0 s.heap.size) ⟨B.exec, B.bytes, hml, findClass_of_methodNamed B.named, hts, hK, fun q h => Or.inr h, B.notSynchronized, hE⟩ hG B.returns s.heap [] _ hl hP hD0.self va_S.rf
theorem M_ofgz {l : Launch} {D : va_G} {t : Nat → ClassId} {y : MethodName} {wsy wsy1 : List Cond} {rm : Room} {av : List Value} {W0 : va_W} {S : Type} {W1 : S → va_W} {post : Int → S → Prop} {mc ms nL : Nat} {cc : ByteArray} (hy : plainName y.cls = true) (hw : wsy = Cond.code y cc nL (some .boolean) :: wsy1) (hlen : (lg_sl av).length ≤ nL)
    (body : ∀ (p : Program) (e : Env) (s : State) (m : MethodId) (args : Array Value) (below : List Frame) (meth : Method) (c : Code) (A : Nat → Prop), Cx p rm s m args meth c D t A nL cc wsy y.cls → Gx s → meth.sig.returnType = (some .boolean) → V p l e rm s m args below meth c D A nL 0 0 (MQ below (QI D A W1 post) args s mc ms A) 0 (lv_args 0 av) [] W0) : MWi l D t y wsy rm av W0 W1 post mc ms := by
  intro sz
  refine Met.ofW (cc := cc) (maxL := nL) (ret := (some .boolean)) hy hw ?_
  intro p e s m args below meth c s₁ B hml hv
  obtain ⟨rfl, hsz, hP, hK, hD0, hE, hG⟩ := hv
  have hts := atoms_spec (ws := wsy) B.pre
  subst hsz
  have hl := lv_entry av hlen
  rw [lg_entry_eq]
  exact body p e s m _ below meth c (va_A W0 s.heap.size) ⟨B.exec, B.bytes, hml, findClass_of_methodNamed B.named, hts, hK, fun q h => Or.inr h, B.notSynchronized, hE⟩ hG B.returns s.heap [] _ hl hP hD0.self va_S.rf
theorem M_ofgl {l : Launch} {D : va_G} {t : Nat → ClassId} {y : MethodName} {wsy wsy1 : List Cond} {rm : Room} {av : List Value} {W0 : va_W} {S : Type} {W1 : S → va_W} {post : Int64 → S → Prop} {mc ms nL : Nat} {cc : ByteArray} (hy : plainName y.cls = true) (hw : wsy = Cond.code y cc nL (some .long) :: wsy1) (hlen : (lg_sl av).length ≤ nL)
    (body : ∀ (p : Program) (e : Env) (s : State) (m : MethodId) (args : Array Value) (below : List Frame) (meth : Method) (c : Code) (A : Nat → Prop), Cx p rm s m args meth c D t A nL cc wsy y.cls → Gx s → meth.sig.returnType = (some .long) → V p l e rm s m args below meth c D A nL 0 0 (MQ below (QL D A W1 post) args s mc ms A) 0 (lv_args 0 av) [] W0) : MWl l D t y wsy rm av W0 W1 post mc ms := by
  intro sz
  refine Met.ofW (cc := cc) (maxL := nL) (ret := (some .long)) hy hw ?_
  intro p e s m args below meth c s₁ B hml hv
  obtain ⟨rfl, hsz, hP, hK, hD0, hE, hG⟩ := hv
  have hts := atoms_spec (ws := wsy) B.pre
  subst hsz
  have hl := lv_entry av hlen
  rw [lg_entry_eq]
  exact body p e s m _ below meth c (va_A W0 s.heap.size) ⟨B.exec, B.bytes, hml, findClass_of_methodNamed B.named, hts, hK, fun q h => Or.inr h, B.notSynchronized, hE⟩ hG B.returns s.heap [] _ hl hP hD0.self va_S.rf
theorem MWi.mono {l : Launch} {D : va_G} {t : Nat → ClassId} {y : MethodName} {wsy : List Cond} {rm : Room} {av : List Value} {W0 : va_W} {S : Type} {W1 : S → va_W} {post post1 : Int → S → Prop} {mc ms : Nat} (h : MWi l D t y wsy rm av W0 W1 post mc ms) (k : ∀ r u, post r u → post1 r u) : MWi l D t y wsy rm av W0 W1 post1 mc ms := by
  intro sz
  refine MetFree.mono (h sz) (fun _ _ h => h) (fun _ _ _ _ _ h => h) (fun a s o s1 _ hq => ⟨?_, hq.2⟩)
  obtain ⟨⟨r, u, h1, ⟨r1, h2, h3⟩, h4⟩, h5⟩ := hq.1
  exact ⟨⟨r, u, h1, ⟨r1, h2, k _ _ h3⟩, h4⟩, h5⟩
section VLW
variable {p : Program} {l : Launch} {e : Env} {R : Room} {s : State} {m : MethodId} {args : Array Value} {below : List Frame} {meth : Method} {c : Code} {D : va_G} {t : Nat → ClassId} {A : Nat → Prop} {nL : Nat} {cc : ByteArray} {Ts : List Cond} {own : String} {cells slots : Nat} {Q : State → Prop} {pc : Nat} {lv : List (Nat × Value)} {st : List Value} {ws : va_W}
/-- a call of the face that throws nothing here -/
theorem V_fc (hc : Cx p R s m args meth c D t A nL cc Ts own) {hB : Nat} {y : MethodName} {bytes : ByteArray} {maxL mc ms index : Nat} {ret : Option FieldType} {wsy wsy1 : List Cond} {rm : Room} {As st0 : List Value} {σ : aW} {ok : Int → aW → Prop} {rf : Nat → Prop} (hF : FC l D t hB y wsy rm As mc ms ws σ ok rf) (hn : ∀ j, ¬ rf j) (hst : st0 = As.reverse ++ .ref hB :: st) (hg : GoodIn Ts (wsV own index RX4 y wsy)) (hwy : wsy = Cond.code y bytes maxL ret :: wsy1) (hmr : rm.cells = mc ∧ rm.slots = ms) (hdy : y.cls = RX4 ∧ y.cls ≠ "java/lang/invoke/MethodHandle" ∧ y.cls ≠ "java/lang/invoke/VarHandle" ∧ (parseMethodDescriptor y.desc).map (fun d => d.parameters.length) = some As.length) (hRm : rm.frames + 1 ≤ R.frames ∧ 8 + (maxL + 11) + rm.locals ≤ R.locals) (hroom : (st.map fun v => v.category).sum ≤ 8) (hd : decode cc pc = .ok (.invokevirtual index, 3)) (hfit : cells + mc ≤ R.cells ∧ slots + ms ≤ R.slots)
    (k : ∀ (r : Int) (σ1 : aW) (w1 : va_W), ok r σ1 → CW t hB w1 σ1 → V p l e R s m args below meth c D A nL (cells + mc) (slots + ms) Q (pc + 3) lv (.int (iI r) :: st) w1) : V p l e R s m args below meth c D A nL cells slots Q pc lv st0 ws := by
  obtain ⟨wc, wr, fs, S, W1, post, PX, px, hp, hrc, hM, h1, h2, h3⟩ := hF
  refine V_callVI hc hp hrc rfl (hM.toM (fun j h => hn j (h2 j h))) hst hg hwy hmr hdy hRm hroom hd hfit (fun r u hpo => ?_)
  obtain ⟨σ1, g1, g2⟩ := h1 r u hpo
  exact k r σ1 _ g1 g2
/-- the same, its answer and what it leaves known -/
theorem V_fd (hc : Cx p R s m args meth c D t A nL cc Ts own) {hB : Nat} {y : MethodName} {bytes : ByteArray} {maxL mc ms index : Nat} {ret : Option FieldType} {wsy wsy1 : List Cond} {rm : Room} {As st0 : List Value} {σ : aW} {ok : Int → aW → Prop} {rf : Nat → Prop} (hF : FC l D t hB y wsy rm As mc ms ws σ ok rf) (hn : ∀ j, ¬ rf j) (v : Int) (σ1 : aW) (hdet : ∀ r σ2, ok r σ2 → r = v ∧ σ2 = σ1) (hst : st0 = As.reverse ++ .ref hB :: st) (hg : GoodIn Ts (wsV own index RX4 y wsy)) (hwy : wsy = Cond.code y bytes maxL ret :: wsy1) (hmr : rm.cells = mc ∧ rm.slots = ms) (hdy : y.cls = RX4 ∧ y.cls ≠ "java/lang/invoke/MethodHandle" ∧ y.cls ≠ "java/lang/invoke/VarHandle" ∧ (parseMethodDescriptor y.desc).map (fun d => d.parameters.length) = some As.length) (hRm : rm.frames + 1 ≤ R.frames ∧ 8 + (maxL + 11) + rm.locals ≤ R.locals) (hroom : (st.map fun v => v.category).sum ≤ 8) (hd : decode cc pc = .ok (.invokevirtual index, 3)) (hfit : cells + mc ≤ R.cells ∧ slots + ms ≤ R.slots)
    (k : ∀ (w1 : va_W), CW t hB w1 σ1 → V p l e R s m args below meth c D A nL (cells + mc) (slots + ms) Q (pc + 3) lv (.int (iI v) :: st) w1) : V p l e R s m args below meth c D A nL cells slots Q pc lv st0 ws :=
  V_fc hc hF hn hst hg hwy hmr hdy hRm hroom hd hfit (fun r σ2 w1 h1 h2 => by
    obtain ⟨rfl, rfl⟩ := hdet r σ2 h1
    exact k w1 h2)
/-- a call of the face that may throw, caught here -/
theorem V_tc (hc : Cx p R s m args meth c D t A nL cc Ts own) {hB : Nat} {y : MethodName} {bytes : ByteArray} {maxL mc ms index : Nat} {ret : Option FieldType} {wsy wsy1 : List Cond} {rm : Room} {As st0 : List Value} {σ : aW} {ok : Int → aW → Prop} {rf : Nat → Prop} (hF : FC l D t hB y wsy rm As mc ms ws σ ok rf) (hst : st0 = As.reverse ++ .ref hB :: st) (hg : GoodIn Ts (wsV own index RX4 y wsy)) (hwy : wsy = Cond.code y bytes maxL ret :: wsy1) (hmr : rm.cells = mc ∧ rm.slots = ms) (hdy : y.cls = RX4 ∧ y.cls ≠ "java/lang/invoke/MethodHandle" ∧ y.cls ≠ "java/lang/invoke/VarHandle" ∧ (parseMethodDescriptor y.desc).map (fun d => d.parameters.length) = some As.length) (hRm : rm.frames + 1 ≤ R.frames ∧ 8 + (maxL + 11) + rm.locals ≤ R.locals) (hroom : (st.map fun v => v.category).sum ≤ 8) (hd : decode cc pc = .ok (.invokevirtual index, 3)) (hfit : cells + mc ≤ R.cells ∧ slots + ms ≤ R.slots)
    (kx : ∀ (j q9 : Nat) (w1 : va_W), rf j → CW t hB w1 σ → ∃ (pre : List ExceptionTableEntry) (x : ExceptionTableEntry) (suf : List ExceptionTableEntry) (name : String), c.exceptionTable.toList = pre ++ x :: suf ∧ (∀ z ∈ pre, z.catchType ≠ 0 ∧ ∃ nm : String, Cond.classLink own z.catchType nm ∈ Ts ∧ va_Nc (exN j) nm s) ∧ covers x pc = true ∧ x.catchType ≠ 0 ∧ Cond.classLink own x.catchType name ∈ Ts ∧ (exN j, name) ∈ evCast ∧ V p l e R s m args below meth c D A nL (cells + mc) (slots + ms) Q x.handlerPc lv [.ref q9] w1)
    (k : ∀ (r : Int) (σ1 : aW) (w1 : va_W), ok r σ1 → CW t hB w1 σ1 → V p l e R s m args below meth c D A nL (cells + mc) (slots + ms) Q (pc + 3) lv (.int (iI r) :: st) w1) : V p l e R s m args below meth c D A nL cells slots Q pc lv st0 ws := by
  obtain ⟨wc, wr, fs, S, W1, post, PX, px, hp, hrc, hM, h1, h2, h3⟩ := hF
  refine V_tryVI hc hp hrc rfl hM hst hg hwy hmr hdy hRm hroom hd hfit (fun j q9 W9 hj hW9 => ?_) (fun r u hpo => ?_)
  · exact kx j q9 _ (h2 j hj) (h3 W9 hW9)
  · obtain ⟨σ1, g1, g2⟩ := h1 r u hpo
    exact k r σ1 _ g1 g2
theorem PcG.at (hc : Cx p R s m args meth c D t A nL cc Ts own) (hG : Gx s) {H : Heap} {locs : List Loc} (hP : va_P D vwCl ws H) (hD : va_D A ws) (hS : va_S A s.heap H locs) {wc wr : va_W} (hp : ws.Perm (wc ++ wr)) (av : List Value) : ∀ U : State, U.heap = H → s.WarmedH U.vm → PcG D t av wc H.size av.toArray U := by
  intro U hU hW
  obtain ⟨a1, a2, a3, a4, a5, a6⟩ := PcE.at hc hP hD hS hp av U hU hW
  exact ⟨a1, a2, a3, a4, a5, a6, hG.moved hW.alike⟩
/-- a static call of a method of the law with a table of its own (call, ask), its answer known -/
theorem V_lc (hc : Cx p R s m args meth c D t A nL cc Ts own) (hG : Gx s) {hB : Nat} {y : MethodName} {bytes : ByteArray} {maxL mc ms index : Nat} {hh : List (Nat × Nat × Nat × Nat)} {wsy wsy1 : List Cond} {rm : Room} {As st0 : List Value} {R0 : Int → aW → Prop} (hM : MWi l D t y wsy rm As ws idW (po_L t hB R0) mc ms) (v : Int) (σ1 : aW) (hdet : ∀ r σ2, R0 r σ2 → r = v ∧ σ2 = σ1) (hst : st0 = As.reverse ++ st) (hg : GoodIn Ts (va_wsS own index y wsy)) (hwy : wsy = Cond.codeWith y bytes maxL (some .int) hh :: wsy1) (hmr : rm.cells = mc ∧ rm.slots = ms) (hdy : y.cls ≠ "java/lang/invoke/MethodHandle" ∧ y.cls ≠ "java/lang/invoke/VarHandle" ∧ (parseMethodDescriptor y.desc).map (fun d => d.parameters.length) = some As.length) (hRm : rm.frames + 1 ≤ R.frames ∧ 8 + (maxL + 11) + rm.locals ≤ R.locals) (hroom : (st.map fun v => v.category).sum ≤ 8) (hd : decode cc pc = .ok (.invokestatic index, 3)) (hfit : cells + mc ≤ R.cells ∧ slots + ms ≤ R.slots)
    (k : ∀ (w1 : va_W), CW t hB w1 σ1 → V p l e R s m args below meth c D A nL (cells + mc) (slots + ms) Q (pc + 3) lv (.int (iI v) :: st) w1) : V p l e R s m args below meth c D A nL cells slots Q pc lv st0 ws := by
  have hc0 := hc
  obtain ⟨hx, hb, hml, hown, hts, hK, hA, hlk, hE⟩ := hc
  intro H locs ls hl hP hD hS
  subst hst
  have hp : ws.Perm (ws ++ []) := by rw [List.append_nil]
  have hFc := fz_free hD hS hA hp
  refine va_calli (vx_runSW (As := As) (rest := st) ⟨hx, hb, hml, hown, hts⟩ (hM H.size) (vx_cwSW As.length hts hg hwy hmr.1 hmr.2 hdy hRm) ⟨PcG.blind, PcG.at hc0 hG hP hD hS hp As⟩ rfl rfl hl.1 rfl (lv_room hroom) hd hfit) hS (fun q _ h => hFc q h) hFc (fun r u t H1 locs1 ht hvm hw hB1 hz1 hk1 hS1 => ?_)
  obtain ⟨r1, rfl, σ2, hR0, hCW1⟩ := hw
  obtain ⟨rfl, rfl⟩ := hdet r1 σ2 hR0
  obtain ⟨hP1, hD1⟩ := hB1
  rw [ht] at hP1
  obtain ⟨hP2, hD2⟩ := fz_join hP hD hp hk1 hFc hP1 hD1
  rw [List.append_nil] at hP2 hD2
  exact k u hCW1 H1 locs1 ls hl hP2 hD2 hS1
/-- a static call of a method of the law without a table -/
theorem V_ls (hc : Cx p R s m args meth c D t A nL cc Ts own) (hG : Gx s) {y : MethodName} {bytes : ByteArray} {maxL mc ms index : Nat} {ret : Option FieldType} {wsy wsy1 : List Cond} {rm : Room} {As st0 : List Value} {S : Type} {W1 : S → va_W} {post : Int → S → Prop} {wc wr : va_W} (hp : ws.Perm (wc ++ wr)) (hM : MWi l D t y wsy rm As wc W1 post mc ms) (hst : st0 = As.reverse ++ st) (hg : GoodIn Ts (va_wsS own index y wsy)) (hwy : wsy = Cond.code y bytes maxL ret :: wsy1) (hmr : rm.cells = mc ∧ rm.slots = ms) (hdy : y.cls ≠ "java/lang/invoke/MethodHandle" ∧ y.cls ≠ "java/lang/invoke/VarHandle" ∧ (parseMethodDescriptor y.desc).map (fun d => d.parameters.length) = some As.length) (hRm : rm.frames + 1 ≤ R.frames ∧ 8 + (maxL + 11) + rm.locals ≤ R.locals) (hroom : (st.map fun v => v.category).sum ≤ 8) (hd : decode cc pc = .ok (.invokestatic index, 3)) (hfit : cells + mc ≤ R.cells ∧ slots + ms ≤ R.slots)
    (k : ∀ (r : Int) (u : S), post r u → V p l e R s m args below meth c D A nL (cells + mc) (slots + ms) Q (pc + 3) lv (.int (iI r) :: st) (W1 u ++ wr)) : V p l e R s m args below meth c D A nL cells slots Q pc lv st0 ws := by
  have hc0 := hc
  obtain ⟨hx, hb, hml, hown, hts, hK, hA, hlk, hE⟩ := hc
  intro H locs ls hl hP hD hS
  subst hst
  have hFc := fz_free hD hS hA hp
  refine va_calli (va_runS (As := As) (rest := st) ⟨hx, hb, hml, hown, hts⟩ (hM H.size) (va_cwS As.length hts hg hwy hmr.1 hmr.2 hdy hRm) ⟨PcG.blind, PcG.at hc0 hG hP hD hS hp As⟩ rfl rfl hl.1 rfl (lv_room hroom) hd hfit) hS (fun q _ h => hFc q h) hFc (fun r u t H1 locs1 ht hvm hw hB1 hz1 hk1 hS1 => ?_)
  obtain ⟨r1, rfl, hpo⟩ := hw
  obtain ⟨hP1, hD1⟩ := hB1
  rw [ht] at hP1
  obtain ⟨hP2, hD2⟩ := fz_join hP hD hp hk1 hFc hP1 hD1
  exact k r1 u hpo H1 locs1 ls hl hP2 hD2 hS1
/-- the same, its answer known, the world the object alone -/
theorem V_lz (hc : Cx p R s m args meth c D t A nL cc Ts own) (hG : Gx s) {hB : Nat} {y : MethodName} {bytes : ByteArray} {maxL mc ms index : Nat} {ret : Option FieldType} {wsy wsy1 : List Cond} {rm : Room} {As st0 : List Value} {R0 : Int → aW → Prop} (hM : MWi l D t y wsy rm As ws idW (po_L t hB R0) mc ms) (v : Int) (σ1 : aW) (hdet : ∀ r σ2, R0 r σ2 → r = v ∧ σ2 = σ1) (hst : st0 = As.reverse ++ st) (hg : GoodIn Ts (va_wsS own index y wsy)) (hwy : wsy = Cond.code y bytes maxL ret :: wsy1) (hmr : rm.cells = mc ∧ rm.slots = ms) (hdy : y.cls ≠ "java/lang/invoke/MethodHandle" ∧ y.cls ≠ "java/lang/invoke/VarHandle" ∧ (parseMethodDescriptor y.desc).map (fun d => d.parameters.length) = some As.length) (hRm : rm.frames + 1 ≤ R.frames ∧ 8 + (maxL + 11) + rm.locals ≤ R.locals) (hroom : (st.map fun v => v.category).sum ≤ 8) (hd : decode cc pc = .ok (.invokestatic index, 3)) (hfit : cells + mc ≤ R.cells ∧ slots + ms ≤ R.slots)
    (k : ∀ (w1 : va_W), CW t hB w1 σ1 → V p l e R s m args below meth c D A nL (cells + mc) (slots + ms) Q (pc + 3) lv (.int (iI v) :: st) w1) : V p l e R s m args below meth c D A nL cells slots Q pc lv st0 ws := by
  have hp : ws.Perm (ws ++ []) := by rw [List.append_nil]
  refine V_ls hc hG hp hM hst hg hwy hmr hdy hRm hroom hd hfit (fun r u hpo => ?_)
  obtain ⟨σ2, hR0, hCW1⟩ := hpo
  obtain ⟨rfl, rfl⟩ := hdet r σ2 hR0
  exact V_weq (List.append_nil _) (k u hCW1)
/-- a static call of seen -/
theorem V_ll (hc : Cx p R s m args meth c D t A nL cc Ts own) (hG : Gx s) {hB : Nat} {y : MethodName} {bytes : ByteArray} {maxL mc ms index : Nat} {ret : Option FieldType} {wsy wsy1 : List Cond} {rm : Room} {As st0 : List Value} {v : Int64} {σ : aW} (hM : MWl l D t y wsy rm As ws idW (fun r u => r = v ∧ CW t hB u σ) mc ms) (hst : st0 = As.reverse ++ st) (hg : GoodIn Ts (va_wsS own index y wsy)) (hwy : wsy = Cond.code y bytes maxL ret :: wsy1) (hmr : rm.cells = mc ∧ rm.slots = ms) (hdy : y.cls ≠ "java/lang/invoke/MethodHandle" ∧ y.cls ≠ "java/lang/invoke/VarHandle" ∧ (parseMethodDescriptor y.desc).map (fun d => d.parameters.length) = some As.length) (hRm : rm.frames + 1 ≤ R.frames ∧ 8 + (maxL + 11) + rm.locals ≤ R.locals) (hroom : (st.map fun v => v.category).sum ≤ 8) (hd : decode cc pc = .ok (.invokestatic index, 3)) (hfit : cells + mc ≤ R.cells ∧ slots + ms ≤ R.slots)
    (k : ∀ (w1 : va_W), CW t hB w1 σ → V p l e R s m args below meth c D A nL (cells + mc) (slots + ms) Q (pc + 3) lv (.long v :: st) w1) : V p l e R s m args below meth c D A nL cells slots Q pc lv st0 ws := by
  have hc0 := hc
  obtain ⟨hx, hb, hml, hown, hts, hK, hA, hlk, hE⟩ := hc
  intro H locs ls hl hP hD hS
  subst hst
  have hp : ws.Perm (ws ++ []) := by rw [List.append_nil]
  have hFc := fz_free hD hS hA hp
  refine va_calll (va_runS (As := As) (rest := st) ⟨hx, hb, hml, hown, hts⟩ (hM H.size) (va_cwS As.length hts hg hwy hmr.1 hmr.2 hdy hRm) ⟨PcG.blind, PcG.at hc0 hG hP hD hS hp As⟩ rfl rfl hl.1 rfl (lv_room hroom) hd hfit) hS (fun q _ h => hFc q h) hFc (fun r u t H1 locs1 ht hvm hw hB1 hz1 hk1 hS1 => ?_)
  obtain ⟨rfl, hCW1⟩ := hw
  obtain ⟨hP1, hD1⟩ := hB1
  rw [ht] at hP1
  obtain ⟨hP2, hD2⟩ := fz_join hP hD hp hk1 hFc hP1 hD1
  rw [List.append_nil] at hP2 hD2
  exact k u hCW1 H1 locs1 ls hl hP2 hD2 hS1
/-! branches that are known, longs -/
theorem V_neF (hc : Cx p R s m args meth c D t A nL cc Ts own) {a b : Int} {off : Int} {tgt : Nat} (hd : decode cc pc = .ok (.if_icmp .ne off, 3)) (ht : (pc : Int) + off = (tgt : Int)) (h : a = b) (k : V p l e R s m args below meth c D A nL cells slots Q (pc + 3) lv st ws) : V p l e R s m args below meth c D A nL cells slots Q pc lv (.int (iI b) :: .int (iI a) :: st) ws := by
  obtain ⟨hx, hb, hml, hown, hts, hK, hA, hlk, hE⟩ := hc
  intro H locs ls hl hP hD hS
  subst h
  exact lv_icmp_ne hx hb hd ht (fun q => absurd rfl q) (fun _ => k H locs ls hl hP hD hS)
theorem V_iremL (hc : Cx p R s m args meth c D t A nL cc Ts own) {a b r : Int} (hd : decode cc pc = .ok (.irem, 1)) (h0 : ¬ iI b = 0) (hv : iI a - iI a / iI b * iI b = iI r) (k : V p l e R s m args below meth c D A nL cells slots Q (pc + 1) lv (.int (iI r) :: st) ws) : V p l e R s m args below meth c D A nL cells slots Q pc lv (.int (iI b) :: .int (iI a) :: st) ws := by
  obtain ⟨hx, hb, hml, hown, hts, hK, hA, hlk, hE⟩ := hc
  intro H locs ls hl hP hD hS
  refine lv_irem hx hb hd h0 ?_
  rw [hv]
  exact k H locs ls hl hP hD hS
theorem V_idivL (hc : Cx p R s m args meth c D t A nL cc Ts own) {a b r : Int} (hd : decode cc pc = .ok (.idiv, 1)) (h0 : ¬ iI b = 0) (hv : iI a / iI b = iI r) (k : V p l e R s m args below meth c D A nL cells slots Q (pc + 1) lv (.int (iI r) :: st) ws) : V p l e R s m args below meth c D A nL cells slots Q pc lv (.int (iI b) :: .int (iI a) :: st) ws := by
  obtain ⟨hx, hb, hml, hown, hts, hK, hA, hlk, hE⟩ := hc
  intro H locs ls hl hP hD hS
  refine lv_idiv hx hb hd h0 ?_
  rw [hv]
  exact k H locs ls hl hP hD hS
theorem V_ladd (hc : Cx p R s m args meth c D t A nL cc Ts own) {x y : Int64} (hd : decode cc pc = .ok (.ladd, 1)) (k : V p l e R s m args below meth c D A nL cells slots Q (pc + 1) lv (.long (x + y) :: st) ws) : V p l e R s m args below meth c D A nL cells slots Q pc lv (.long y :: .long x :: st) ws := by
  obtain ⟨hx, hb, hml, hown, hts, hK, hA, hlk, hE⟩ := hc
  intro H locs ls hl hP hD hS
  exact lv_ladd hx hb hd (k H locs ls hl hP hD hS)
theorem V_lmul (hc : Cx p R s m args meth c D t A nL cc Ts own) {x y : Int64} (hd : decode cc pc = .ok (.lmul, 1)) (k : V p l e R s m args below meth c D A nL cells slots Q (pc + 1) lv (.long (x * y) :: st) ws) : V p l e R s m args below meth c D A nL cells slots Q pc lv (.long y :: .long x :: st) ws := by
  obtain ⟨hx, hb, hml, hown, hts, hK, hA, hlk, hE⟩ := hc
  intro H locs ls hl hP hD hS
  exact lv_lmul hx hb hd (k H locs ls hl hP hD hS)
theorem V_ldc2 (hc : Cx p R s m args meth c D t A nL cc Ts own) {index : Nat} {v : Int64} (hw : Cond.constantLong own index v ∈ Ts) (hd : decode cc pc = .ok (.ldc2_w index, 3)) (k : V p l e R s m args below meth c D A nL cells slots Q (pc + 3) lv (.long v :: st) ws) : V p l e R s m args below meth c D A nL cells slots Q pc lv st ws := by
  obtain ⟨hx, hb, hml, hown, hts, hK, hA, hlk, hE⟩ := hc
  intro H locs ls hl hP hD hS
  exact lv_ldc2 hx hb hown (hts _ hw) hd (k H locs ls hl hP hD hS)
theorem V_ldc (hc : Cx p R s m args meth c D t A nL cc Ts own) {index : Nat} {v : Int32} (hw : Cond.constant own index v ∈ Ts) (hd : decode cc pc = .ok (.ldc index, 2)) (k : V p l e R s m args below meth c D A nL cells slots Q (pc + 2) lv (.int v :: st) ws) : V p l e R s m args below meth c D A nL cells slots Q pc lv st ws := by
  obtain ⟨hx, hb, hml, hown, hts, hK, hA, hlk, hE⟩ := hc
  intro H locs ls hl hP hD hS
  exact lv_ldc hx hb hown (hts _ hw) hd (k H locs ls hl hP hD hS)
theorem V_lload_n (hc : Cx p R s m args meth c D t A nL cc Ts own) {i : Fin 4} {x : Int64} (hd : decode cc pc = .ok (.lload_n i, 1)) (j : Nat) (hj : lv[j]? = some ((i : Nat), .long x)) (k : V p l e R s m args below meth c D A nL cells slots Q (pc + 1) lv (.long x :: st) ws) : V p l e R s m args below meth c D A nL cells slots Q pc lv st ws := by
  obtain ⟨hx, hb, hml, hown, hts, hK, hA, hlk, hE⟩ := hc
  intro H locs ls hl hP hD hS
  exact lv_lload_n hx hb hd rfl (lv_at hl j hj) (k H locs ls hl hP hD hS)
theorem V_lload (hc : Cx p R s m args meth c D t A nL cc Ts own) {i : Nat} {x : Int64} (hd : decode cc pc = .ok (.lload i, 2)) (j : Nat) (hj : lv[j]? = some (i, .long x)) (k : V p l e R s m args below meth c D A nL cells slots Q (pc + 2) lv (.long x :: st) ws) : V p l e R s m args below meth c D A nL cells slots Q pc lv st ws := by
  obtain ⟨hx, hb, hml, hown, hts, hK, hA, hlk, hE⟩ := hc
  intro H locs ls hl hP hD hS
  exact lv_lload hx hb hd (lv_at hl j hj) (k H locs ls hl hP hD hS)
theorem V_lstore_n (hc : Cx p R s m args meth c D t A nL cc Ts own) {i : Fin 4} {x : Int64} (hd : decode cc pc = .ok (.lstore_n i, 1)) (lv1 : List (Nat × Value)) (hn : (i : Nat) + 1 < nL) (hl1 : ((i : Nat), Value.long x) :: lv.filter (fun q => !(q.1 == (i : Nat)) && (!(q.1 == (i : Nat) + 1) && !(q.1 + 1 == (i : Nat) && q.2.category == 2))) = lv1) (k : V p l e R s m args below meth c D A nL cells slots Q (pc + 1) lv1 st ws) : V p l e R s m args below meth c D A nL cells slots Q pc lv (.long x :: st) ws := by
  obtain ⟨hx, hb, hml, hown, hts, hK, hA, hlk, hE⟩ := hc
  intro H locs ls hl hP hD hS
  exact lv_lstore_n hx hb hd rfl hl hn hl1 (fun ls1 h1 => k H locs ls1 h1 hP hD hS)
theorem V_lstore (hc : Cx p R s m args meth c D t A nL cc Ts own) {i : Nat} {x : Int64} (hd : decode cc pc = .ok (.lstore i, 2)) (lv1 : List (Nat × Value)) (hn : i + 1 < nL) (hl1 : (i, Value.long x) :: lv.filter (fun q => !(q.1 == i) && (!(q.1 == i + 1) && !(q.1 + 1 == i && q.2.category == 2))) = lv1) (k : V p l e R s m args below meth c D A nL cells slots Q (pc + 2) lv1 st ws) : V p l e R s m args below meth c D A nL cells slots Q pc lv (.long x :: st) ws := by
  obtain ⟨hx, hb, hml, hown, hts, hK, hA, hlk, hE⟩ := hc
  intro H locs ls hl hP hD hS
  exact lv_lstore hx hb hd hl hn hl1 (fun ls1 h1 => k H locs ls1 h1 hP hD hS)
theorem V_lret (hc : Cx p R s m args meth c D t A nL cc Ts own) (hr : meth.sig.returnType = some .long) {S : Type} {W1 : S → va_W} {post : Int64 → S → Prop} {r : Int64} (u : S) (hp : post r u) (hw : ws = W1 u) (hd : decode cc pc = .ok (.lreturn, 1)) : V p l e R s m args below meth c D A nL cells slots (MQ below (QL D A W1 post) args s cells slots A) pc lv [.long r] ws := by
  obtain ⟨hx, hb, hml, hown, hts, hK, hA, hlk, hE⟩ := hc
  intro H locs ls hl hP hD hS
  subst hw
  exact W.lret (v := r) hx hb hr (fun t ht hW => ⟨⟨r, u, rfl, hp, by rw [ht]; exact hP, hD⟩, hS.F ht⟩) hS.2.2 hd hlk
theorem V_lcmpT (hc : Cx p R s m args meth c D t A nL cc Ts own) {x y : Int64} (hd : decode cc pc = .ok (.lcmp, 1)) (h : x = y) (k : V p l e R s m args below meth c D A nL cells slots Q (pc + 1) lv (.int (iI 0) :: st) ws) : V p l e R s m args below meth c D A nL cells slots Q pc lv (.long y :: .long x :: st) ws := by
  obtain ⟨hx, hb, hml, hown, hts, hK, hA, hlk, hE⟩ := hc
  intro H locs ls hl hP hD hS
  subst h
  refine W.lcmp hx hb hd ?_
  have e1 : lg_cmp x x = 0 := by simp [lg_cmp]
  rw [e1]
  exact k H locs ls hl hP hD hS
theorem V_iandx (hc : Cx p R s m args meth c D t A nL cc Ts own) {x y : Int32} (hd : decode cc pc = .ok (.iand, 1)) (k : V p l e R s m args below meth c D A nL cells slots Q (pc + 1) lv (.int (iI (x &&& y).toInt) :: st) ws) : V p l e R s m args below meth c D A nL cells slots Q pc lv (.int y :: .int x :: st) ws := by
  obtain ⟨hx, hb, hml, hown, hts, hK, hA, hlk, hE⟩ := hc
  intro H locs ls hl hP hD hS
  refine lv_iand hx hb hd ?_
  rw [← iI_x (x &&& y)]
  exact k H locs ls hl hP hD hS
/-- fewer cells -/
theorem V_less {ws1 wr : va_W} (hp : ws.Perm (ws1 ++ wr)) (k : V p l e R s m args below meth c D A nL cells slots Q pc lv st ws1) : V p l e R s m args below meth c D A nL cells slots Q pc lv st ws := fun H locs ls hl hP hD hS => k H locs ls hl (va_P_app.mp (hP.pm hp)).1 (va_D_app.mp (hD.pm hp)).1 hS
end VLW
