/-! methods with handlers: what they may take as given besides; a call that may throw, caught here -/
def Gx (U : State) : Prop := va_Nc "java/lang/IllegalStateException" "java/lang/IllegalArgumentException" U ∧ va_Nc "java/lang/IllegalArgumentException" "java/lang/IndexOutOfBoundsException" U ∧ va_Nc "java/lang/IllegalStateException" "java/lang/IndexOutOfBoundsException" U
theorem Gx.moved {u U : State} (hvm : u.vm.Alike U.vm) (h : Gx u) : Gx U := ⟨h.1.moved hvm, h.2.1.moved hvm, h.2.2.moved hvm⟩
def PcG (D : va_G) (t : Nat → ClassId) (av : List Value) (W0 : va_W) (sz : Nat) : Array Value → State → Prop := va_Pc av (fun U => U.heap.size = sz ∧ va_P D vwCl W0 U.heap ∧ va_K D vwCl (tyL t) U ∧ va_D (fun _ => True) W0 ∧ Ev (va_A W0 sz) U U.heap ∧ Gx U)
theorem PcG.blind {D : va_G} {t : Nat → ClassId} {av : List Value} {W0 : va_W} {sz : Nat} : FrameBlind (PcG D t av W0 sz) := by
  intro a U g mk q
  obtain ⟨q0, q1, qP, qK, qD, qE, qF⟩ := q
  exact ⟨q0, q1, qP, va_K.moved (u := U) (U := U.calling g mk a) (Vm.Alike.refl U.vm) qK, qD, qE.same rfl, qF.moved (u := U) (U := U.calling g mk a) (Vm.Alike.refl U.vm)⟩
def MWi (l : Launch) (D : va_G) (t : Nat → ClassId) (y : MethodName) (wsy : List Cond) (rm : Room) (av : List Value) (W0 : va_W) {S : Type} (W1 : S → va_W) (post : Int → S → Prop) (mc ms : Nat) : Prop := ∀ sz, Met l y wsy rm (PcG D t av W0 sz) (QI D (va_A W0 sz) W1 post) mc ms (va_A W0 sz)
theorem Met_ofWH {l : Launch} {y : MethodName} {ws ws' : List Cond} {rm : Room} {Pc : Array Value → State → Prop} {Qc : Array Value → State → Outcome → State → Prop} {mc ms : Nat} {free : Addr → Prop} {cc : ByteArray} {maxL : Nat} {ret : Option FieldType} {hh : List (Nat × Nat × Nat × Nat)}
    (hy : plainName y.cls = true) (hw : ws = Cond.codeWith y cc maxL ret hh :: ws')
    (body : ∀ p e s m args below meth c s₁, BodyLoose p l y (headSpec ws rm) cc maxL ret e s m args below meth c s₁ → c.maxLocals = maxL → Pc args s →
      W p l e (headSpec ws rm).room s m args below meth c s.heap [] 0 0 (MQ below Qc args s mc ms free) (entryFrame m args maxL)) : Met l y ws rm Pc Qc mc ms free := by
  refine MetFree.of_bodyS (code := cc) (maxLocals := maxL) (ret := ret) hy ?_ ?_
  · intro args s m h hn
    obtain ⟨m9, meth, c, hn9, h1, h2, h3, h4, -, h5, h6, -⟩ := Cond.codeWith_spec (atoms_spec (ws := ws) h _ (by rw [hw]; exact List.mem_cons_self))
    cases hn.symm.trans hn9
    exact ⟨meth, c, h1, h2, h3, h4, h5, h6⟩
  · intro p e s m args below meth c s₁ B hml hP _
    have hh0 : s₁.heap = s.heap := by rw [B.state]; rfl
    obtain ⟨t, a1, o, b1, b2, b3⟩ := body p e s m args below meth c s₁ B hml hP s₁ hh0 (Stand.of_body B)
    exact ⟨t, o, a1, b1, b2, ⟨b3.1, b3.2⟩⟩
theorem M_ofw {l : Launch} {D : va_G} {t : Nat → ClassId} {y : MethodName} {wsy wsy1 : List Cond} {rm : Room} {av : List Value} {W0 : va_W} {S : Type} {W1 : S → va_W} {post : Int → S → Prop} {mc ms nL : Nat} {cc : ByteArray} {hh : List (Nat × Nat × Nat × Nat)} (hy : plainName y.cls = true) (hw : wsy = Cond.codeWith y cc nL (some .int) hh :: wsy1) (hlen : (lg_sl av).length ≤ nL)
    (body : ∀ (p : Program) (e : Env) (s : State) (m : MethodId) (args : Array Value) (below : List Frame) (meth : Method) (c : Code) (A : Nat → Prop), Cx p rm s m args meth c D t A nL cc wsy y.cls → Gx s → c.exceptionTable.toList = tableOf hh → meth.sig.returnType = some .int → V p l e rm s m args below meth c D A nL 0 0 (MQ below (QI D A W1 post) args s mc ms A) 0 (lv_args 0 av) [] W0) : MWi l D t y wsy rm av W0 W1 post mc ms := by
  intro sz
  refine Met_ofWH (cc := cc) (maxL := nL) (ret := some .int) hy hw ?_
  intro p e s m args below meth c s₁ B hml hv
  obtain ⟨rfl, hsz, hP, hK, hD0, hE, hG⟩ := hv
  have hts := atoms_spec (ws := wsy) B.pre
  have hT : c.exceptionTable.toList = tableOf hh := vx_table (x := y) B (hts _ (by rw [hw]; exact List.mem_cons_self))
  subst hsz
  have hl := lv_entry av hlen
  rw [lg_entry_eq]
  exact body p e s m _ below meth c (va_A W0 s.heap.size) ⟨B.exec, B.bytes, hml, findClass_of_methodNamed B.named, hts, hK, fun q h => Or.inr h, B.notSynchronized, hE⟩ hG hT B.returns s.heap [] _ hl hP hD0.self va_S.rf
section VRT
variable {p : Program} {l : Launch} {e : Env} {R : Room} {s : State} {m : MethodId} {args : Array Value} {below : List Frame} {meth : Method} {c : Code} {D : va_G} {t : Nat → ClassId} {A : Nat → Prop} {nL : Nat} {cc : ByteArray} {Ts : List Cond} {own : String} {cells slots : Nat} {Q : State → Prop} {pc : Nat} {lv : List (Nat × Value)} {st : List Value} {ws : va_W}
theorem V_i2l (hc : Cx p R s m args meth c D t A nL cc Ts own) {x : Int32} (hd : decode cc pc = .ok (.i2l, 1)) (k : V p l e R s m args below meth c D A nL cells slots Q (pc + 1) lv (.long x.toInt64 :: st) ws) : V p l e R s m args below meth c D A nL cells slots Q pc lv (.int x :: st) ws := by
  obtain ⟨hx, hb, hml, hown, hts, hK, hA, hlk, hE⟩ := hc
  intro H locs ls hl hP hD hS
  exact lv_i2l hx hb hd rfl (k H locs ls hl hP hD hS)
theorem V_lconst (hc : Cx p R s m args meth c D t A nL cc Ts own) {n : Fin 2} (hd : decode cc pc = .ok (.lconst n, 1)) (k : V p l e R s m args below meth c D A nL cells slots Q (pc + 1) lv (.long (Int64.ofNat (n : Nat)) :: st) ws) : V p l e R s m args below meth c D A nL cells slots Q pc lv st ws := by
  obtain ⟨hx, hb, hml, hown, hts, hK, hA, hlk, hE⟩ := hc
  intro H locs ls hl hP hD hS
  exact lv_lconst hx hb hd rfl (k H locs ls hl hP hD hS)
theorem V_tryVI (hc : Cx p R s m args meth c D t A nL cc Ts own) {y : MethodName} {bytes : ByteArray} {maxL mc ms index : Nat} {ret : Option FieldType} {wsy wsy1 : List Cond} {rm : Room} {As st0 : List Value} {S : Type} {W1 : S → va_W} {post : Int → S → Prop} {px : Nat → Prop} {PX : va_W → Prop} {wc wr : va_W} (hp : ws.Perm (wc ++ wr)) {b ci : Nat} {fs : List Value} {C : String} {T : u_T} {N : Nat} (hrc : wc[0]? = some (b, .inr (ci, fs))) (hcl : vwCl[ci]? = some (C, T, N)) (hM : XI l D t y wsy rm (.ref b :: As) wc W1 post PX px mc ms) (hst : st0 = As.reverse ++ .ref b :: st) (hg : GoodIn Ts (wsV own index C y wsy)) (hwy : wsy = Cond.code y bytes maxL ret :: wsy1) (hmr : rm.cells = mc ∧ rm.slots = ms) (hdy : y.cls = C ∧ y.cls ≠ "java/lang/invoke/MethodHandle" ∧ y.cls ≠ "java/lang/invoke/VarHandle" ∧ (parseMethodDescriptor y.desc).map (fun d => d.parameters.length) = some As.length) (hRm : rm.frames + 1 ≤ R.frames ∧ 8 + (maxL + 11) + rm.locals ≤ R.locals) (hroom : (st.map fun v => v.category).sum ≤ 8) (hd : decode cc pc = .ok (.invokevirtual index, 3)) (hfit : cells + mc ≤ R.cells ∧ slots + ms ≤ R.slots)
    (kx : ∀ (j q9 : Nat) (W9 : va_W), px j → PX W9 → ∃ (pre : List ExceptionTableEntry) (x : ExceptionTableEntry) (suf : List ExceptionTableEntry) (name : String), c.exceptionTable.toList = pre ++ x :: suf ∧ (∀ z ∈ pre, z.catchType ≠ 0 ∧ ∃ nm : String, Cond.classLink own z.catchType nm ∈ Ts ∧ va_Nc (exN j) nm s) ∧ covers x pc = true ∧ x.catchType ≠ 0 ∧ Cond.classLink own x.catchType name ∈ Ts ∧ (exN j, name) ∈ evCast ∧ V p l e R s m args below meth c D A nL (cells + mc) (slots + ms) Q x.handlerPc lv [.ref q9] (W9 ++ wr))
    (k : ∀ (r : Int) (u : S), post r u → V p l e R s m args below meth c D A nL (cells + mc) (slots + ms) Q (pc + 3) lv (.int (iI r) :: st) (W1 u ++ wr)) : V p l e R s m args below meth c D A nL cells slots Q pc lv st0 ws := by
  have hc0 := hc
  obtain ⟨hx, hb, hml, hown, hts, hK, hA, hlk, hE⟩ := hc
  intro H locs ls hl hP hD hS
  subst hst
  have hFc := fz_free hD hS hA hp
  have hPc := (va_P_app.mp (hP.pm hp)).1
  refine vx_calli (vx_runV (As := As) (rest := st) ⟨hx, hb, hml, hown, hts⟩ (hM H.size) (cwV As.length hts hg hwy hmr.1 hmr.2 hdy hRm) ⟨PcE.blind, va_recv hK hPc hcl hrc, PcE.at hc0 hP hD hS hp (.ref b :: As)⟩ rfl rfl hl.1 rfl (lv_room hroom) hd hfit) hS (fun q _ h => hFc q h) hFc (fun q _ h => hFc q h) (fun E ce q9 u t H1 locs1 ht hvm hw hB1 hz1 hk1 hS1 hce hcv hcl1 => ?_) (fun r u t H1 locs1 ht hvm hw hB1 hz1 hk1 hS1 => ?_)
  · obtain ⟨hE1, W9, hW9, hP1, hD1⟩ := hB1
    subst hE1
    rw [ht] at hP1
    obtain ⟨hP2, hD2⟩ := fz_join hP hD hp hk1 hFc hP1 hD1
    obtain ⟨pre, x, suf, name, g1, g2, g3, g4, g5, g6, g7⟩ := kx u q9 W9 hw hW9
    refine vx_catch hown pre x suf g1 (fun z hz => Or.inr ?_) g3 g4 (hts _ g5) (va_Nw.use rfl (hE.2.2.2.2.2.1 _ g6)) hce hcv hcl1 (g7 H1 locs1 ls hl hP2 hD2 hS1)
    obtain ⟨a1, nm, a2, a3⟩ := g2 z hz
    exact ⟨a1, nm, hts _ a2, a3⟩
  · obtain ⟨r', rfl, hpo⟩ := hw
    obtain ⟨hP1, hD1⟩ := hB1
    rw [ht] at hP1
    obtain ⟨hP2, hD2⟩ := fz_join hP hD hp hk1 hFc hP1 hD1
    exact k r' u hpo H1 locs1 ls hl hP2 hD2 hS1
end VRT
def po_wr {S : Type} (W1 : S → va_W) (post : Int → S → Prop) (PX : va_W → Prop) (px : Nat → Prop) (wr : va_W) (cd : Nat → Int) (val : Int → Int64) (r : Int) (u : va_W × (Nat → Int64)) : Prop := (r = 0 ∧ ∃ (v : Int) (w : S), post v w ∧ u.1 = W1 w ++ wr ∧ u.2 0 = val v) ∨ (∃ (j : Nat) (W9 : va_W), px j ∧ r = cd j ∧ PX W9 ∧ u.1 = W9 ++ wr)
def cd10 (j : Nat) : Int := if j = 0 then 1 else 2
def cd1 (_ : Nat) : Int := 1
def cd20 (j : Nat) : Int := if j = 2 then 1 else 2
def vl (v : Int) : Int64 := (iI v).toInt64
def vlb (v : Int) : Int64 := if v = 0 then 0 else 1
