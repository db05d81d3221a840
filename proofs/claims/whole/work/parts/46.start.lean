/-! THE CLAIM OUT OF ONE WALK OF THE LAW'S BODY. Your part is whole_start (and what it stands on); all else here is the same for every law, but numbers. -/
def R_law : String := "BackgroundRebuildLaw"
def lw_P (b : Addr) (xs : List Int32) (args : Array Value) (s : State) : Prop := args = #[.ref b] ∧ s.IntsAt b xs ∧ xs.length ≤ 2048 ∧ (Jvm.Cond.and given_1 narrow_1).before args s = true
/-- what a walk over the start with the record d0 says of its end, said of the start itself -/
theorem lw_closed {s t : State} {o : Outcome} {d0 : Drawn} {L : List Loc} {k n : Nat} (hd0 : s.drawn.sameBut d0 lw_cs) (hv : ∃ v, o = .returned v) (hW : (s.setDrawn d0).WarmedH t.vm) (hs : (s.setDrawn d0).sameButNew ({ t with vm := s.vm } : State) L k n) : State.butDraws s t lw_cs (fun t1 => Framed s o t1 L k n) := by
  have h2 : t.drawn = d0 := congrArg State.drawn hs.1
  refine ⟨⟨hv, hW, State.sameButNew.setDrawn hs s.drawn⟩, ?_, by decide⟩
  rw [h2]
  exact hd0
def lw_Q (_ : Array Value) (s : State) (o : Outcome) (t : State) : Prop := o = .returned (some (.int 1)) ∧ State.butDraws s t lw_cs (fun t1 => Framed s o t1 [] 601024 7293034)
def lw_Z (below : List Frame) (a : Array Value) (s : State) : State → Prop := fun t => ∃ o, t.status = .running ∧ Ended t below o ∧ lw_Q a s o t
/-- the law's own end, with 1 on the stack, nothing written that was there before, its room as the claim has it; d0: the record of draws at this point (at the entry s.drawn: begin with 'refine W.base ?_' and 'have hd0 := Drawn.sameBut.refl s.drawn lw_cs') -/
theorem lw_ret {p : Program} {l : Launch} {e : Env} {s : State} {m : MethodId} {below : List Frame} {meth : Method} {c : Code} {b : Nat} {d0 : Drawn} (hd0 : s.drawn.sameBut d0 lw_cs) (hx : p.tables.exec = Jvm.exec) (hb : c.code = code) (hr : meth.sig.returnType = ret) (hlocks : meth.locks = false) {pc : Nat} {H : Heap} {ls : Array Slot} (hdg : decode code pc = .ok (.ireturn, 1)) : W p l e room_1 (s.setDrawn d0) m #[Value.ref b] below meth c H [] 601024 7293034 (lw_Z below #[Value.ref b] s) (F0 m pc ls [.int 1]) := by
  intro T hT X
  obtain ⟨fs, hret, hrun, hended, hW, hframe⟩ := X.leave (v := some (.int 1)) (hlocks := hlocks) (fun h => by rw [hr] at h; cases h)
  have hmeth' : T.vm.method? m = some meth := X.method'
  refine ⟨T.setFrames fs, ?_, .returned (some (.int 1)), hrun, hended, rfl, lw_closed hd0 ⟨_, rfl⟩ hW hframe⟩
  jvm_step X.here [X.here.top, hx, hb, hdg, hmeth', hr, ret, narrow_b1]
  (try refine ⟨rfl, ?_⟩); (try refine ⟨rfl, ?_⟩)
  first | (intro acts; rw [hret _ acts rfl rfl rfl]) | rw [hret _ _ rfl rfl rfl]
  exact Steps.refl _
/-- what holds at the law's entry: the machine, the code, the tables' words (any of lw_tbl by 'hts w (by decide +kernel)'), the script of L ints xs at the cell b, what the Statement gives of the start (any of its parts by flat_of_before) -/
def lw_At (p : Program) (s : State) (m : MethodId) (meth : Method) (c : Code) (b L : Nat) (xs : Nat → Int32) : Prop :=
  p.tables.exec = Jvm.exec ∧ c.code = code ∧ meth.sig.returnType = ret ∧ c.maxLocals = 9 ∧ s.vm.findClass R_law = some m.cls ∧ (∀ w ∈ lw_tbl, w.before #[Value.ref b] s = true) ∧ va_X b L xs s s.heap ∧ b < s.heap.size ∧ meth.locks = false ∧ (Jvm.Cond.and given_1 narrow_1).before #[Value.ref b] s = true
section VNL
variable {p : Program} {l : Launch} {e : Env} {R : Room} {s : State} {m : MethodId} {args : Array Value} {below : List Frame} {meth : Method} {c : Code} {D : va_G} {t : Nat → ClassId} {A : Nat → Prop} {nL : Nat} {cc : ByteArray} {Ts : List Cond} {own : String} {cells slots : Nat} {Q : State → Prop} {pc : Nat} {lv : List (Nat × Value)} {st : List Value} {ws : va_W}
theorem V_newObjL (hc : Cx p R s m args meth c D t A nL cc Ts own) (hF : Fx A s s.heap) {C : String} {T : u_T} {N ci ki index mc ms maxL : Nat} {y : MethodName} {bytes : ByteArray} {wsy wsy1 : List Cond} {rm : Room} {S : Type} {W1 : Nat → S → va_W} {post : S → Prop} (fs0 : List Value) (hcl : vwCl[ci]? = some (C, T, N)) (hin : ∀ w ∈ u_ws C T N, w ∈ Ts) (ty : Nat → FieldType) (hty : ∀ k, k < N → parseFieldDescriptor (T k).2.2.1 = some (ty k)) (hlink : Cond.classLink own ki C ∈ Ts) (hinst : Cond.instantiable C N ∈ Ts) (hini : Cond.initialized C ∈ Ts) (hfs : ∀ j, j < N → defaultValue (ty j) = vp_V fs0 j)
    (hM : ∀ q, MC l D t y wsy rm [.ref q] [oB q ci fs0] (W1 q) post mc ms) (hml9 : Cond.methodLink own index y ∈ Ts) (hg : GoodIn Ts wsy) (hwy : wsy = Cond.code y bytes maxL none :: wsy1) (hmr : rm.cells = mc ∧ rm.slots = ms) (hdy : y.cls = C ∧ y.name = "<init>" ∧ y.cls ≠ "java/lang/invoke/MethodHandle" ∧ y.cls ≠ "java/lang/invoke/VarHandle" ∧ (parseMethodDescriptor y.desc).map (fun d => d.parameters.length) = some 0) (him : Cond.instanceMethod y ∈ Ts) (hRm : rm.frames + 1 ≤ R.frames ∧ 8 + (maxL + 11) + rm.locals ≤ R.locals) (hroom : (st.map fun v => v.category).sum ≤ 7)
    (d0 : decode cc pc = .ok (.new ki, 3)) (d1 : decode cc (pc + 3) = .ok (.dup, 1)) (d2 : decode cc (pc + 4) = .ok (.invokespecial index, 3)) (hfit : cells + (mc + 1) ≤ R.cells ∧ slots + (ms + N) ≤ R.slots)
    (k : ∀ (q : Nat) (u : S), post u → V p l e R s m args below meth c D A nL (cells + (mc + 1)) (slots + (ms + N)) Q (pc + 7) lv (.ref q :: st) (W1 q u ++ ws)) : V p l e R s m args below meth c D A nL cells slots Q pc lv st ws := by
  have hc0 := hc
  obtain ⟨hx, hb, hml, hown, hts, hK, hA, hlk, hE⟩ := hc
  intro H locs ls hl hP hD hS
  refine va_new hx hb hts hin ty hty hown (hts _ hlink) (hts _ hinst) (hts _ hini) hK hP hD hS hA hcl hfs (by omega) (by omega) d0 (fun q H1 hP1 hD1 hS1 => ?_)
  refine lv_dup hx hb d1 rfl ?_
  have hp : (ws ++ [oB q ci fs0]).Perm ([oB q ci fs0] ++ ws) := List.perm_append_comm
  have hFc := fz_free hD1 hS1 hA hp
  have hiy : (Cond.initialized y.cls).before args s = true := by rw [hdy.1]; exact hts _ hini
  have hat : ∀ U : State, U.heap = H1 → s.WarmedH U.vm → PcF D t [.ref q] [oB q ci fs0] H1.size ([Value.ref q]).toArray U := by
    intro U hU hW
    obtain ⟨a1, a2, a3, a4, a5, a6⟩ := PcE.at hc0 hP1 hD1 hS1 hp [.ref q] U hU hW
    exact ⟨a1, a2, a3, a4, a5, a6, hF.pass hS1 hFc hW hU⟩
  refine va_callv (va_runI (As := []) (rest := .ref q :: st) ⟨hx, hb, hml, hown, hts⟩ (hM q H1.size) (cwI 0 hts hg hwy hmr.1 hmr.2 hiy (hts _ hml9) (hts _ him) hdy.2.1 ⟨hdy.2.2.1, hdy.2.2.2.1, hdy.2.2.2.2⟩ hRm) ⟨PcF.blind, hat⟩ rfl rfl hl.1 rfl (lv_room (by simp only [List.map_cons, List.sum_cons]; show 1 + _ ≤ 8; omega)) d2 ⟨by omega, by omega⟩) hS1 (fun q _ h => hFc q h) hFc (fun u t H2 locs1 ht hvm hw hB1 hz1 hk1 hS2 => ?_)
  obtain ⟨hP9, hD9⟩ := hB1
  rw [ht] at hP9
  obtain ⟨hP2, hD2⟩ := fz_join hP1 hD1 hp hk1 hFc hP9 hD9
  have h9 := k q u hw H2 locs1 ls hl hP2 hD2 hS2
  rw [show cells + (mc + 1) = cells + 1 + mc by omega, show slots + (ms + N) = slots + N + ms by omega] at h9
  exact h9
theorem V_newj (hc : Cx p R s m args meth c D t A nL cc Ts own) {n : Nat} (h1 : Cond.arrayClass .long ∈ Ts) (hn : n < 100000) (hd : decode cc pc = .ok (.newarray .long, 2)) (hfit : cells + 1 ≤ R.cells ∧ slots + n ≤ R.slots) (k : ∀ q : Nat, V p l e R s m args below meth c D A nL (cells + 1) (slots + n) Q (pc + 2) lv (.ref q :: st) (ws ++ [aJ t q n (fun _ => 0)])) : V p l e R s m args below meth c D A nL cells slots Q pc lv (.int (iI (n : Int)) :: st) ws := by
  obtain ⟨hx, hb, hml, hown, hts, hK, hA, hlk, hE⟩ := hc
  intro H locs ls hl hP hD hS
  refine va_newa (atype := .long) (ty := .long) (N' := n) (a0 := (n, .inr (.inl (fun _ => 0)))) hx hb (hts _ h1) rfl hK hP hD hS hA (fun cA => rfl) (nn_iI (by omega)).1 (nn_iI (by omega)).2 (by show n * 8 ≤ _; omega) hfit.1 hfit.2 hd (fun q cA H1 hK1 hP1 hD1 hS1 => ?_)
  have e1 : s.vm.findClass ("[" ++ (FieldType.long).toString) = some cA := (hK1.2 5 (cA, .long) rfl).2
  have e2 : s.vm.findClass ("[" ++ (FieldType.long).toString) = some (t 4) := (hK.2 4 (t 4, .long) rfl).2
  cases e1.symm.trans e2
  exact k q H1 locs ls hl hP1 hD1 hS1
end VNL
/-! the first states of both sides -/
def A0 : aS := (ab_e0, ab_e0, ([], 0, [], 0), ta_FIRST_VALUES, fun _ => 0)
def σ0 : aW := (A0, [], fun _ => none, [])
def uC0 : Nat → Nat → Int := fun c => match c with | 14 => ta_FIRST_VALUES | _ => z0
def uM0 : Nat → Nat → Int := fun c => match c with | 9 => zM | _ => z0
def aC0 (a b : Nat → Nat) : Nat → Nat := fun i => if i < 14 then a i else b (i - 14)
theorem cT0 (k d m : Nat → Int) : ab_cT 0 k d m [] (fun _ => 0) := ⟨rfl, fun i x dx h => by
  have h : ([] : List (Int × Int))[i]? = some (x, dx) := h
  cases h⟩
theorem iv0 : iv 0 σ0 := by
  refine ⟨⟨ab_g_e0, ab_g_e0, ⟨Nat.le_refl _, Nat.zero_le _, Nat.zero_le _, Or.inl rfl⟩, fun _ => ⟨rfl, rfl, rfl, rfl⟩, ⟨fun x hx => absurd hx List.not_mem_nil, fun x hx => absurd hx List.not_mem_nil, fun x hx => absurd hx List.not_mem_nil⟩, ⟨?_, ?_, ?_⟩, ?_⟩, fun B hB => absurd hB List.not_mem_nil, fun i B _ h => (by cases h), Nat.zero_le _, fun c hc => absurd hc List.not_mem_nil⟩
  · show 10 ≤ (50 : Int) ∧ (50 : Int) ≤ 100
    omega
  · show 3 ≤ (10 : Int) ∧ (10 : Int) ≤ 40
    omega
  · show 1 ≤ (2 : Int) ∧ (2 : Int) ≤ 8
    omega
  · show (0 ≤ (0 : Int) ∧ (0 : Int) ≤ 2000) ∧ (0 ≤ (0 : Int) ∧ (0 : Int) ≤ 2000) ∧ (0 ≤ (0 : Int) ∧ (0 : Int) ≤ 0)
    omega
theorem CREL0 (sv nv : Nat → Nat → Nat → Int) : CREL uC0 sv nv σ0 := by
  refine ⟨⟨cT0 _ _ _, ⟨cT0 _ _ _, rfl, rfl, rfl, rfl, fun i x h => (by cases h), fun i x h => (by cases h)⟩, fun i _ => rfl, fun i _ => rfl⟩, ⟨rfl, Nat.zero_le _, fun i A h => (by cases h)⟩, fun i hi => ⟨Or.inl rfl, ⟨fun _ => rfl, fun _ => rfl⟩, fun A h => (by cases h)⟩, ab_CT_nil⟩
theorem zM_at (j : Nat) : zM j = if j = 638 then 2 else if j = 637 then 10 else if j = 636 then 50 else 0 := rfl
theorem MREL0 : MREL uM0 σ0 := by
  refine ⟨⟨⟨rfl, fun i x h => (by cases h)⟩, ⟨rfl, fun i x h => (by cases h)⟩, ⟨rfl, rfl, rfl, rfl⟩, ⟨fun p x h => (by cases h), fun p x h => (by cases h)⟩, fun i hi => ?_, fun i hi => ?_⟩, ⟨rfl, Nat.zero_le _, fun i A h => (by cases h)⟩, fun i hi => ⟨Or.inl rfl, ⟨fun _ => rfl, fun _ => rfl⟩, fun A h => (by cases h)⟩, ab_CT_nil⟩
  · show zM (636 + i) = ta_FIRST_VALUES i
    rcases (show i = 0 ∨ i = 1 ∨ i = 2 by omega) with rfl | rfl | rfl <;> rfl
  · show zM (639 + i) = 0
    rw [zM_at, if_neg (by omega), if_neg (by omega), if_neg (by omega)]
theorem CW0 (t : Nat → ClassId) (hB : Nat) (u : (Nat → Nat) × (Nat → Nat) × (Nat → Nat → Nat) × (Nat → Nat → Nat)) : CW t hB (W1_X4_init t hB u ++ []) σ0 := by
  refine ⟨aC0 u.2.1 u.1, uC0, u.2.2.1, u.2.2.2, fun _ => u0, fun _ => u0, ?_, CREL0 _ _⟩
  rw [List.append_nil]
  refine List.Perm.append_right _ ?_
  exact pmI (ws1 := LC t hB (aC0 u.2.1 u.1) uC0 u.2.2.1 u.2.2.2) [0, 15, 16, 17, 18, 19, 20, 21, 22, 23, 24, 25, 26, 27, 28, 1, 2, 3, 4, 5, 6, 7, 8, 9, 10, 11, 12, 13, 14] 29 rfl (by decide) rfl
theorem wi_X4 : ∀ w ∈ u_ws RX4 TX4 9, w ∈ wsL_law := by decide +kernel
theorem wi_X5 : ∀ w ∈ u_ws RX5 TX5 21, w ∈ wsL_law := by decide +kernel
theorem m_law_1 : Cond.classLink RL 8 RX4 ∈ wsL_law ∧ Cond.instantiable RX4 9 ∈ wsL_law ∧ Cond.initialized RX4 ∈ wsL_law ∧ Cond.methodLink RL 93 yX4_init ∈ wsL_law ∧ Cond.instanceMethod yX4_init ∈ wsL_law := by decide +kernel
theorem m_law_2 : Cond.classLink RL 94 RX5 ∈ wsL_law ∧ Cond.instantiable RX5 21 ∈ wsL_law ∧ Cond.initialized RX5 ∈ wsL_law ∧ Cond.methodLink RL 96 yX5_init ∈ wsL_law ∧ Cond.instanceMethod yX5_init ∈ wsL_law := by decide +kernel
theorem m_law_3 : Cond.arrayClass .long ∈ wsL_law := by decide +kernel
section LOOP
variable {p : Program} {l : Launch} {e : Env} {s : State} {m : MethodId} {below : List Frame} {meth : Method} {c : Code} {D : va_G} {t : Nat → ClassId} {b : Nat}
theorem law_exit (hc : Cx p room_1 s m #[Value.ref b] meth c D t (lwA s) 9 cL_law wsL_law RL) (hr : meth.sig.returnType = ret) {cells slots : Nat} {lv : List (Nat × Value)} {ws : va_W} (h1 : cells ≤ 601024) (h2 : slots ≤ 7293034) : V p l e room_1 s m #[Value.ref b] below meth c D (lwA s) 9 cells slots (lw_Z below #[Value.ref b] s) 1657 lv [] ws := by
  obtain ⟨hx, hb, hml, hown, hts, hK, hA, hlk, hE⟩ := hc
  intro H locs ls hl hP hD hS
  refine lv_iconst (v := 1) hx hb dL_law_1657 rfl ?_
  refine W.widen (k := 601024) (n := 7293034) h1 h2 ?_
  refine va_forget hS.2.2 ?_
  exact W.base (lw_ret (Drawn.sameBut.refl s.drawn lw_cs) hx hb hr hlk dL_law_1658)
set_option maxHeartbeats 4000000 in
theorem law_loop (hc : Cx p room_1 s m #[Value.ref b] meth c D t (lwA s) 9 cL_law wsL_law RL) (hG : Gx s) (hl0 : l.stackTraces = false) {L : Nat} {xs : Nat → Int32} (hX : va_X b L xs s s.heap) (hbl : b < s.heap.size) (hbA : ¬ lwA s b) (hL : L ≤ 2048) (hr : meth.sig.returnType = ret) {hB hM oA : Nat} {a : Nat → Nat} : ∀ (n : Nat) (i B : Int) (u : Nat → Nat → Int) (σ : aW) (f0 : Nat → Int64) (wC : va_W) (cells slots : Nat), 0 ≤ i → i ≤ 3000 → (L : Int) < i + 4 * ((n : Int) + 1) → CW t hB wC σ → MREL u σ → iv B σ → B + 248 * (n : Int) ≤ 1000000 → cells + 2 * n ≤ 601024 → slots + 12 * n ≤ 7293034 → V p l e room_1 s m #[Value.ref b] below meth c D (lwA s) 9 cells slots (lw_Z below #[Value.ref b] s) 23 [(0, .ref b), (1, .ref hB), (2, .ref hM), (3, .ref oA), (4, .int (iI i))] [] ([aJ t oA 1 f0] ++ (LM t hM a u ++ wC)) := by
  intro n
  induction n with
  | zero =>
    intro i B u σ f0 wC cells slots hi0 hi1 hn hCW hR hI hb hcl hsl
    refine V_iload hc dL_law_23 4 rfl ?_
    refine V_aload_n hc dL_law_25 0 rfl ?_
    refine V_slen hc hX hbl hbA dL_law_26 ?_
    refine V_iconst hc dL_law_27 ?_
    refine V_isub hc dL_law_28 ?_
    refine V_icmp_gt (X := True) (Y := False) (tgt := 1657) hc dL_law_29 (by decide) ⟨by omega, by omega, fun _ => trivial, fun h => h (by omega)⟩ (fun _ => ?_) (fun h => h.elim)
    exact law_exit hc hr (by omega) (by omega)
  | succ n ih =>
    intro i B u σ f0 wC cells slots hi0 hi1 hn hCW hR hI hb hcl hsl
    refine V_iload hc dL_law_23 4 rfl ?_
    refine V_aload_n hc dL_law_25 0 rfl ?_
    refine V_slen hc hX hbl hbA dL_law_26 ?_
    refine V_iconst hc dL_law_27 ?_
    refine V_isub hc dL_law_28 ?_
    refine V_icmp_gt (X := True) (Y := i + 4 ≤ (L : Int)) (tgt := 1657) hc dL_law_29 (by decide) ⟨by omega, by omega, fun _ => trivial, fun h => by omega⟩ (fun _ => ?_) (fun hi4 => ?_)
    · exact law_exit hc hr (by omega) (by omega)
    have hi : 0 ≤ i ∧ i + 4 ≤ (L : Int) := ⟨hi0, hi4⟩
    have hrc : room_1.cells = 601024 := rfl
    have hrs : room_1.slots = 7293034 := rfl
    have hfit : cells + 2 ≤ room_1.cells ∧ slots + 12 ≤ room_1.slots := by omega
    have hb1 : B ≤ 1000000 := by omega
    have hK : ∀ (σ' : aW) (u' : Nat → Nat → Int) (wC' : va_W) (f' : Nat → Int64), CW t hB wC' σ' → MREL u' σ' → iv (B + 248) σ' → V p l e room_1 s m #[Value.ref b] below meth c D (lwA s) 9 (cells + 2) (slots + 12) (lw_Z below #[Value.ref b] s) 1651 [(0, .ref b), (1, .ref hB), (2, .ref hM), (3, .ref oA), (4, .int (iI i))] [] ([aJ t oA 1 f'] ++ (LM t hM a u' ++ wC')) := by
      intro σ' u' wC' f' hCW' hR' hI'
      refine V_iinc hc dL_law_1651 4 rfl [(4, .int (iI (i + 4))), (0, .ref b), (1, .ref hB), (2, .ref hM), (3, .ref oA)] (Nat.le_of_ble_eq_true rfl) rfl ?_
      refine V_goto (tgt := 23) hc dL_law_1654 (by decide) ?_
      refine V_lv [1, 2, 3, 4, 0] [(0, .ref b), (1, .ref hB), (2, .ref hM), (3, .ref oA), (4, .int (iI (i + 4)))] rfl ?_
      exact ih (i + 4) (B + 248) u' σ' f' wC' (cells + 2) (slots + 12) (by omega) (by omega) (by omega) hCW' hR' hI' (by omega) (by omega) (by omega)
    refine V_aload_n hc dL_law_32 0 rfl ?_
    refine V_iload hc dL_law_33 4 rfl ?_
    refine V_sld hc hX hbl hbA (by omega) hL dL_law_35 ?_
    refine V_bipush hc dL_law_36 (by decide) ?_
    refine V_iand hc dL_law_38 ?_
    have hq := inR_x (iI (xs i.toNat).toInt &&& iI 31)
    generalize (iI (xs i.toNat).toInt &&& iI 31).toInt = q at hq ⊢
    by_cases hout : q < 0 ∨ 27 < q
    · refine V_tableOut (tgt := 1651) hc dL_law_39 hq hout (by decide) ?_
      exact V_widen (by omega) (by omega) (hK σ u wC f0 hCW hR (hI.mono (by omega)))
    · rcases (show q = 0 ∨ q = 1 ∨ q = 2 ∨ q = 3 ∨ q = 4 ∨ q = 5 ∨ q = 6 ∨ q = 7 ∨ q = 8 ∨ q = 9 ∨ q = 10 ∨ q = 11 ∨ q = 12 ∨ q = 13 ∨ q = 14 ∨ q = 15 ∨ q = 16 ∨ q = 17 ∨ q = 18 ∨ q = 19 ∨ q = 20 ∨ q = 21 ∨ q = 22 ∨ q = 23 ∨ q = 24 ∨ q = 25 ∨ q = 26 ∨ q = 27 by omega) with rfl | rfl | rfl | rfl | rfl | rfl | rfl | rfl | rfl | rfl | rfl | rfl | rfl | rfl | rfl | rfl | rfl | rfl | rfl | rfl | rfl | rfl | rfl | rfl | rfl | rfl | rfl | rfl
      · exact V_tableIn (off := 125) (tgt := 164) hc dL_law_39 (by decide) (by decide) (by decide) rfl (by decide) (case_add hc hG hl0 hX hbl hbA hL hCW hR hI hb1 hi hfit hK)
      · exact V_tableIn (off := 181) (tgt := 220) hc dL_law_39 (by decide) (by decide) (by decide) rfl (by decide) (case_remove hc hG hl0 hX hbl hbA hL hCW hR hI hb1 hi hfit hK)
      · exact V_tableIn (off := 237) (tgt := 276) hc dL_law_39 (by decide) (by decide) (by decide) rfl (by decide) (case_idle hc hG hl0 hX hbl hbA hL hCW hR hI hb1 hi hfit hK)
      · exact V_tableIn (off := 250) (tgt := 289) hc dL_law_39 (by decide) (by decide) (by decide) rfl (by decide) (case_begin hc hG hl0 hX hbl hbA hL hCW hR hI hb1 hi hfit hK)
      · exact V_tableIn (off := 294) (tgt := 333) hc dL_law_39 (by decide) (by decide) (by decide) rfl (by decide) (case_abandon hc hG hl0 hX hbl hbA hL hCW hR hI hb1 hi hfit hK)
      · exact V_tableIn (off := 338) (tgt := 377) hc dL_law_39 (by decide) (by decide) (by decide) rfl (by decide) (case_set hc hG hl0 hX hbl hbA hL hCW hR hI hb1 hi hfit hK)
      · exact V_tableIn (off := 406) (tgt := 445) hc dL_law_39 (by decide) (by decide) (by decide) rfl (by decide) (case_append hc hG hl0 hX hbl hbA hL hCW hR hI hb1 hi hfit hK)
      · exact V_tableIn (off := 462) (tgt := 501) hc dL_law_39 (by decide) (by decide) (by decide) rfl (by decide) (case_clearBuffer hc hG hl0 hX hbl hbA hL hCW hR hI hb1 hi hfit hK)
      · exact V_tableIn (off := 475) (tgt := 514) hc dL_law_39 (by decide) (by decide) (by decide) rfl (by decide) (case_firstError hc hG hl0 hX hbl hbA hL hCW hR hI hb1 hi hfit hK)
      · exact V_tableIn (off := 488) (tgt := 527) hc dL_law_39 (by decide) (by decide) (by decide) rfl (by decide) (case_execute hc hG hl0 hX hbl hbA hL hCW hR hI hb1 hi hfit hK)
      · exact V_tableIn (off := 532) (tgt := 571) hc dL_law_39 (by decide) (by decide) (by decide) rfl (by decide) (case_undo hc hG hl0 hX hbl hbA hL hCW hR hI hb1 hi hfit hK)
      · exact V_tableIn (off := 576) (tgt := 615) hc dL_law_39 (by decide) (by decide) (by decide) rfl (by decide) (case_keep hc hG hl0 hX hbl hbA hL hCW hR hI hb1 hi hfit hK)
      · exact V_tableIn (off := 632) (tgt := 671) hc dL_law_39 (by decide) (by decide) (by decide) rfl (by decide) (case_goBack hc hG hl0 hX hbl hbA hL hCW hR hI hb1 hi hfit hK)
      · exact V_tableIn (off := 688) (tgt := 727) hc dL_law_39 (by decide) (by decide) (by decide) rfl (by decide) (case_contains hc hG hl0 hX hbl hbA hL hCW hR hI hb1 hi hfit hK)
      · exact V_tableIn (off := 751) (tgt := 790) hc dL_law_39 (by decide) (by decide) (by decide) rfl (by decide) (case_near hc hG hl0 hX hbl hbA hL hCW hR hI hb1 hi hfit hK)
      · exact V_tableIn (off := 819) (tgt := 858) hc dL_law_39 (by decide) (by decide) (by decide) rfl (by decide) (case_rank hc hG hl0 hX hbl hbA hL hCW hR hI hb1 hi hfit hK)
      · exact V_tableIn (off := 875) (tgt := 914) hc dL_law_39 (by decide) (by decide) (by decide) rfl (by decide) (case_keyAt hc hG hl0 hX hbl hbA hL hCW hR hI hb1 hi hfit hK)
      · exact V_tableIn (off := 931) (tgt := 970) hc dL_law_39 (by decide) (by decide) (by decide) rfl (by decide) (case_node hc hG hl0 hX hbl hbA hL hCW hR hI hb1 hi hfit hK)
      · exact V_tableIn (off := 1027) (tgt := 1066) hc dL_law_39 (by decide) (by decide) (by decide) rfl (by decide) (case_path hc hG hl0 hX hbl hbA hL hCW hR hI hb1 hi hfit hK)
      · exact V_tableIn (off := 1095) (tgt := 1134) hc dL_law_39 (by decide) (by decide) (by decide) rfl (by decide) (case_tree hc hG hl0 hX hbl hbA hL hCW hR hI hb1 hi hfit hK)
      · exact V_tableIn (off := 1179) (tgt := 1218) hc dL_law_39 (by decide) (by decide) (by decide) rfl (by decide) (case_rebuild hc hG hl0 hX hbl hbA hL hCW hR hI hb1 hi hfit hK)
      · exact V_tableIn (off := 1235) (tgt := 1274) hc dL_law_39 (by decide) (by decide) (by decide) rfl (by decide) (case_queued hc hG hl0 hX hbl hbA hL hCW hR hI hb1 hi hfit hK)
      · exact V_tableIn (off := 1291) (tgt := 1330) hc dL_law_39 (by decide) (by decide) (by decide) rfl (by decide) (case_count hc hG hl0 hX hbl hbA hL hCW hR hI hb1 hi hfit hK)
      · exact V_tableIn (off := 1347) (tgt := 1386) hc dL_law_39 (by decide) (by decide) (by decide) rfl (by decide) (case_setting hc hG hl0 hX hbl hbA hL hCW hR hI hb1 hi hfit hK)
      · exact V_tableIn (off := 1403) (tgt := 1442) hc dL_law_39 (by decide) (by decide) (by decide) rfl (by decide) (case_untilExchange hc hG hl0 hX hbl hbA hL hCW hR hI hb1 hi hfit hK)
      · exact V_tableIn (off := 1459) (tgt := 1498) hc dL_law_39 (by decide) (by decide) (by decide) rfl (by decide) (case_longest hc hG hl0 hX hbl hbA hL hCW hR hI hb1 hi hfit hK)
      · exact V_tableIn (off := 1515) (tgt := 1554) hc dL_law_39 (by decide) (by decide) (by decide) rfl (by decide) (case_leastSpeed hc hG hl0 hX hbl hbA hL hCW hR hI hb1 hi hfit hK)
      · exact V_tableIn (off := 1571) (tgt := 1610) hc dL_law_39 (by decide) (by decide) (by decide) rfl (by decide) (case_meanDepth hc hG hl0 hX hbl hbA hL hCW hR hI hb1 hi hfit hK)
end LOOP
set_option maxHeartbeats 4000000 in
/-- from the entry -/
theorem whole_start {p : Program} {e : Env} {s : State} {m : MethodId} {below : List Frame} {meth : Method} {c : Code} (l : Launch) (hflags : l.flags = flags0) {b L : Nat} {xs : Nat → Int32} (hL : L ≤ 2048) (C0 : lw_At p s m meth c b L xs) : W p l e room_1 s m #[Value.ref b] below meth c s.heap [] 0 0 (lw_Z below #[Value.ref b] s) (entryFrame m ([Value.ref b] : List Value).toArray 9) := by
  obtain ⟨hx, hb, hr, hml, hown, hts, hX, hbl, hlocks, hgv⟩ := id C0
  have hs : ∀ w ∈ gv, w.before #[Value.ref b] s = true := flat_of_before _ hgv
  have hts2 : ∀ w ∈ wsL_law, w.before #[Value.ref b] s = true := fun w h => hts w (wsL_law_in w h)
  have hl0 : l.stackTraces = false := by unfold Launch.stackTraces; rw [hflags]; decide +kernel
  have hbA : ¬ lwA s b := fun q => by
    have q : s.heap.size ≤ b := q
    omega
  obtain ⟨D, t, hK⟩ := lw_K hts
  have hF := lw_Fx hts hs
  have hc : Cx p room_1 s m #[Value.ref b] meth c D t (lwA s) 9 cL_law wsL_law RL := ⟨hx, hb, hml, hown, hts2, hK, fun q h => h, hlocks, lw_Ev hts hs⟩
  have main : V p l e room_1 s m #[Value.ref b] below meth c D (lwA s) 9 0 0 (lw_Z below #[Value.ref b] s) 0 (lv_args 0 [.ref b]) [] [] := by
    refine V_lv [0] [(0, .ref b)] rfl ?_
    refine V_newObjL (C := RX4) (T := TX4) (N := 9) (mc := 140) (ms := 9244) hc hF [.null, .null, .int (iI 0), .null, .null, .null, .null, .null, .null] rfl wi_X4 tyX4 tyX4_ok m_law_1.1 m_law_1.2.1 m_law_1.2.2.1 df_X4 (fun q9 => met_X4_init l D t q9) m_law_1.2.2.2.1 gL_law_X4_init rfl ⟨rfl, rfl⟩ ok_X4_init m_law_1.2.2.2.2 ⟨Nat.le_of_ble_eq_true rfl, Nat.le_of_ble_eq_true rfl⟩ (Nat.le_of_ble_eq_true rfl) dL_law_0 dL_law_3 dL_law_4 ⟨Nat.le_of_ble_eq_true rfl, Nat.le_of_ble_eq_true rfl⟩ (fun hB u1 _ => ?_)
    refine V_astore_n hc dL_law_7 [(1, .ref hB), (0, .ref b)] (Nat.le_of_ble_eq_true rfl) rfl ?_
    refine V_newObjL (C := RX5) (T := TX5) (N := 21) (mc := 12) (ms := 7068) hc hF [.null, .null, .null, .int (iI 0), .null, .null, .null, .int (iI 0), .int (iI 0), .int (iI 0), .null, .int (iI 0), .int (iI 0), .null, .null, .null, .null, .null, .int (iI 0), .int (iI 0), .int (iI 0)] rfl wi_X5 tyX5 tyX5_ok m_law_2.1 m_law_2.2.1 m_law_2.2.2.1 df_X5 (fun q9 => met_X5_init l D t q9) m_law_2.2.2.2.1 gL_law_X5_init rfl ⟨rfl, rfl⟩ ok_X5_init m_law_2.2.2.2.2 ⟨Nat.le_of_ble_eq_true rfl, Nat.le_of_ble_eq_true rfl⟩ (Nat.le_of_ble_eq_true rfl) dL_law_8 dL_law_11 dL_law_12 ⟨Nat.le_of_ble_eq_true rfl, Nat.le_of_ble_eq_true rfl⟩ (fun hM u2 _ => ?_)
    refine V_astore_n hc dL_law_15 [(2, .ref hM), (1, .ref hB), (0, .ref b)] (Nat.le_of_ble_eq_true rfl) rfl ?_
    refine V_iconst hc dL_law_16 ?_
    refine V_newj (n := 1) hc m_law_3 (Nat.le_of_ble_eq_true rfl) dL_law_17 ⟨Nat.le_of_ble_eq_true rfl, Nat.le_of_ble_eq_true rfl⟩ (fun oA => ?_)
    refine V_astore_n hc dL_law_19 [(3, .ref oA), (2, .ref hM), (1, .ref hB), (0, .ref b)] (Nat.le_of_ble_eq_true rfl) rfl ?_
    refine V_iconst hc dL_law_20 ?_
    refine V_istore hc dL_law_21 [(4, .int (iI 0)), (3, .ref oA), (2, .ref hM), (1, .ref hB), (0, .ref b)] (Nat.le_of_ble_eq_true rfl) rfl ?_
    refine V_lv [4, 3, 2, 1, 0] [(0, .ref b), (1, .ref hB), (2, .ref hM), (3, .ref oA), (4, .int (iI 0))] rfl ?_
    refine V_pm (ws1 := [aJ t oA 1 (fun _ => 0)] ++ (LM t hM u2 uM0 ++ (W1_X4_init t hB u1 ++ []))) List.perm_append_comm ?_
    exact law_loop hc (lw_Gx hs) hl0 hX hbl hbA hL hr 600 0 0 uM0 σ0 (fun _ => 0) _ _ _ (by omega) (by omega) (by omega) (CW0 t hB u1) MREL0 iv0 (by omega) (Nat.le_of_ble_eq_true rfl) (Nat.le_of_ble_eq_true rfl)
  have hl := lv_entry ([.ref b]) (n := 9) (Nat.le_of_ble_eq_true rfl)
  rw [lg_entry_eq]
  exact main s.heap [] _ hl (fun k q h => by simp at h) ⟨fun i j p q h => by simp at h, fun k q h => by simp at h⟩ va_S.rf
set_option maxHeartbeats 4000000 in
theorem lw_walk (l : Launch) (hflags : l.flags = flags0) (b : Addr) (xs : List Int32) : MetFree l x (headSpec (Jvm.Cond.code x code maxLocals ret :: tables_1) room_1) (lw_P b xs) (fun _ _ _ _ _ => True) lw_Q := by
  refine MetFree.of_bodyS (code := code) (maxLocals := maxLocals) (ret := ret) (by decide) ?_ ?_
  · intro args s m h hn
    obtain ⟨meth, c, h1, h2, h3, h4, h5, h6, -, -⟩ := Cond.code_spec hn (atoms_spec (ws := Jvm.Cond.code x code maxLocals ret :: tables_1) h _ List.mem_cons_self)
    exact ⟨meth, c, h1, h2, h3, h4, h5, h6⟩
  · intro p e s m args below meth c s₁ B hml0 hP _
    obtain ⟨rfl, hx, hbd, hgv⟩ := hP
    obtain ⟨scr, harrAt, hlist, hof, hsmall⟩ := hx
    obtain ⟨hcb, hkn, -, -⟩ := State.arrayAt?_spec harrAt
    have hown : s.vm.findClass R_law = some m.cls := findClass_of_methodNamed B.named
    have hts0 : ∀ c ∈ (Jvm.Cond.code x code maxLocals ret :: tables_1), c.before #[Value.ref b] s = true := atoms_spec (ws := Jvm.Cond.code x code maxLocals ret :: tables_1) B.pre
    have hts : ∀ w ∈ lw_tbl, w.before #[Value.ref b] s = true := k2_hts_sels lw_privs (fun w hw => hts0 w (List.mem_cons_of_mem _ hw)) lw_privs_ok
    have hml : c.maxLocals = 9 := B.maxLocals_eq (hts0 _ List.mem_cons_self)
    have X₀ : Stand p l e room_1 s m #[Value.ref b] below meth c s₁ [] 0 0 := Stand.of_body B
    have hh0 : s₁.heap = s.heap := by rw [B.state]; rfl
    have hsz : scr.slots.size = xs.length := by rw [← Array.length_toList, hlist, List.length_map]
    have hval : ∀ j : Nat, j < xs.length → scr.slots[j]? = some (.int (xs.getD j 0)) := fun j hj => by
      rw [← Array.getElem?_toList, hlist]
      simp [hj]
    have hbl : b < s.heap.size := (Array.getElem?_eq_some_iff.mp hcb).1
    have hX : va_X b xs.length (fun j => xs.getD j 0) s s.heap := ⟨scr, hcb, hof, hkn, hsz, hval⟩
    have K : W p l e room_1 s m #[Value.ref b] below meth c s₁.heap [] 0 0 (lw_Z below #[Value.ref b] s) (entryFrame m ([Value.ref b] : List Value).toArray 9) := by
      rw [hh0]
      exact whole_start l hflags hbd ⟨B.exec, B.bytes, B.returns, hml, hown, hts, hX, hbl, B.notSynchronized, hgv⟩
    obtain ⟨t, a1, o, b1, b2, b3⟩ := K s₁ rfl X₀
    exact ⟨t, o, a1, b1, b2, b3⟩
theorem lw_pre_spec {args : Array Value} {s : State} (h : (Jvm.Cond.and given_1 narrow_1).before args s = true) (hr : rest_1_c.before args s = true) : ∃ (b : Addr) (xs : List Int32), lw_P b xs args s := by
  have hs := flat_of_before _ h
  have hq := flat_of_before _ hr
  have hc : (Cond.count 1).before args s = true := hs _ (by decide +kernel)
  have harr : (Cond.arrayOf (.arg 0) .int).before args s = true := hs _ (by decide +kernel)
  have hle : (Cond.le (.length (.arg 0)) (.int 2048)).before args s = true := hs _ (by decide +kernel)
  have hlen : (Cond.isInt (.length (.arg 0))).before args s = true := hq _ (by decide +kernel)
  have hall : (Cond.all (.arg 0) (.isInt (.elem (.arg 0) (.index 0)))).before args s = true := hq _ (by decide +kernel)
  obtain ⟨b, xs, hb, hx⟩ := State.ints_of_pre rfl harr hlen hall
  have hsm : xs.length < 2 ^ 31 := hx.choose_spec.2.2.2
  have hev : (Term.length (.arg 0)).eval args s none [] s = some (.int xs.length.toInt32) := hx.length_eval hb
  have hv := Cond.le_ints hev (show (Term.int 2048).eval args s none [] s = some (.int 2048) from rfl)
  have hd : xs.length.toInt32 ≤ 2048 := by
    simpa [Cond.before, Cond.holds, hv] using hle
  have hN : xs.length ≤ 2048 := (Int32.ofNat_le_ofNat hsm (by decide)).mp (show Int32.ofNat xs.length ≤ Int32.ofNat 2048 from hd)
  exact ⟨b, xs, Cond.one_arg hc (show args[0]? = some (.ref b) from hb), hx, hN, h⟩
theorem lw_comes (l : Launch) (hflags : l.flags = flags0) : Comes l x (Jvm.Cond.code x code maxLocals ret :: tables_1) room_1 (fun tb e args s => Calls_1 tb e args s ∧ rest_1 tb e args s ∧ Pre_1 tb e args s)
    (fun _ _ args s o t => lw_Q args s o t) := by
  intro p e ha hc hk s m args below hf hfit hheap happ hpre
  obtain ⟨b, xs, hP⟩ := lw_pre_spec hpre.2.2 hpre.2.1
  obtain ⟨k, o, h1, h2, h3, hQ⟩ := lw_walk l hflags b xs p e ha hc hk s m args below hf ((Spec.applies_iff_loose hf).mp happ).1 hP trivial
  exact ⟨k, o, h1, h2, h3, hQ⟩
theorem lw_frame {s t : State} {o : Outcome} {args : Array Value} (h : State.butDraws s t lw_cs (fun t1 => Framed s o t1 [] 601024 7293034)) :
    State.butDraws s t [Jvm.Choice.named "NaN.bits"] (fun t1 => Framed s o t1 (fieldLocs frame_1_writes args s ++ arrayLocs frame_1_arrays args s ++ staticLocs frame_1_statics s) 601024 7293034) := h
theorem lw_limb (L : Cond) (hL : ∀ (args : Array Value) (s t : State), L.after args s (.returned (some (.int 1))) t = true) :
    ArmFor flags0 classFile x code maxLocals ret World_1 tables_1 room_1 Calls_1 rest_1 Pre_1
      (fun tb e a s o t => postC L tb e a s o t ∧ State.butDraws s t [Jvm.Choice.named "NaN.bits"] (fun t1 => Framed s o t1 (fieldLocs frame_1_writes a s ++ arrayLocs frame_1_arrays a s ++ staticLocs frame_1_statics s) 601024 7293034)) := by
  intro l hflags _ _ p e ha hc hk s m args below hf hfit hheap happ hpre
  obtain ⟨k, o, h1, h2, h3, rfl, hF⟩ := lw_comes l hflags p e ha hc hk s m args below hf hfit hheap happ hpre
  exact ⟨k, _, h1, h2, h3, hL args s _, lw_frame hF⟩
theorem i_vc : Claimed_1_1 ∧ Claimed_1_2 := ⟨lw_limb limb_1_1 (fun args s t => by simp [limb_1_1, Cond.after, Cond.holds, Cond.value]), lw_limb limb_1_2 (fun args s t => Cond.after_iff.mpr (by
  first | (rw [show limb_1_2 = Cond.eq .result (.int 1) from rfl, Cond.eq_ints (x := 1) (y := 1) rfl rfl]; simp; done) | (simp [limb_1_2, Cond.value, Term.eval]; done)))⟩
