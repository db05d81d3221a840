/-! doubles -/
section VD9
variable {p : Program} {l : Launch} {e : Env} {R : Room} {s : State} {m : MethodId} {args : Array Value} {below : List Frame} {meth : Method} {c : Code} {D : va_G} {t : Nat → ClassId} {A : Nat → Prop} {nL : Nat} {cc : ByteArray} {Ts : List Cond} {own : String} {cells slots : Nat} {Q : State → Prop} {pc : Nat} {lv : List (Nat × Value)} {st : List Value} {ws : va_W}
theorem V_dconst0 (hc : Cx p R s m args meth c D t A nL cc Ts own) (hd : decode cc pc = .ok (.dconst 0, 1)) (k : V p l e R s m args below meth c D A nL cells slots Q (pc + 1) lv (.double FP.dconst0 :: st) ws) : V p l e R s m args below meth c D A nL cells slots Q (pc) lv (st) ws := by
  obtain ⟨hx, hb, hml, hown, hts, hK, hA, hlk, hE⟩ := hc
  intro H locs ls hl hP hD hS
  exact lv_dconst0 hx hb hd (k H locs ls hl hP hD hS)
theorem V_i2d (hc : Cx p R s m args meth c D t A nL cc Ts own) {x : Int32} (hd : decode cc pc = .ok (.i2d, 1)) (k : V p l e R s m args below meth c D A nL cells slots Q (pc + 1) lv (.double (FP.i2d x) :: st) ws) : V p l e R s m args below meth c D A nL cells slots Q (pc) lv (.int x :: st) ws := by
  obtain ⟨hx, hb, hml, hown, hts, hK, hA, hlk, hE⟩ := hc
  intro H locs ls hl hP hD hS
  exact lv_i2d hx hb hd (k H locs ls hl hP hD hS)
theorem V_ddiv (hc : Cx p R s m args meth c D t A nL cc Ts own) {x y : UInt64} {X : Prop} (hd : decode cc pc = .ok (.ddiv, 1)) (hv : vf_n64 (FP.ddiv x y) ∧ X) (k : X → V p l e R s m args below meth c D A nL cells slots Q (pc + 1) lv (.double (FP.ddiv x y) :: st) ws) : V p l e R s m args below meth c D A nL cells slots Q (pc) lv (.double y :: .double x :: st) ws := by
  obtain ⟨hx, hb, hml, hown, hts, hK, hA, hlk, hE⟩ := hc
  intro H locs ls hl hP hD hS
  exact lv_ddiv hx hb hd hv.1 (k hv.2 H locs ls hl hP hD hS)
theorem V_dload_n (hc : Cx p R s m args meth c D t A nL cc Ts own) {i : Fin 4} {x : UInt64} (hd : decode cc pc = .ok (.dload_n i, 1)) (j : Nat) (hj : lv[j]? = some ((i : Nat), .double x)) (k : V p l e R s m args below meth c D A nL cells slots Q (pc + 1) lv (.double x :: st) ws) : V p l e R s m args below meth c D A nL cells slots Q (pc) lv (st) ws := by
  obtain ⟨hx, hb, hml, hown, hts, hK, hA, hlk, hE⟩ := hc
  intro H locs ls hl hP hD hS
  exact lv_dload_n hx hb hd rfl (lv_at hl j hj) (k H locs ls hl hP hD hS)
theorem V_dload (hc : Cx p R s m args meth c D t A nL cc Ts own) {i : Nat} {x : UInt64} (hd : decode cc pc = .ok (.dload i, 2)) (j : Nat) (hj : lv[j]? = some (i, .double x)) (k : V p l e R s m args below meth c D A nL cells slots Q (pc + 2) lv (.double x :: st) ws) : V p l e R s m args below meth c D A nL cells slots Q (pc) lv (st) ws := by
  obtain ⟨hx, hb, hml, hown, hts, hK, hA, hlk, hE⟩ := hc
  intro H locs ls hl hP hD hS
  exact lv_dload hx hb hd (lv_at hl j hj) (k H locs ls hl hP hD hS)
theorem V_dstore_n (hc : Cx p R s m args meth c D t A nL cc Ts own) {i : Fin 4} {x : UInt64} (hd : decode cc pc = .ok (.dstore_n i, 1)) (lv1 : List (Nat × Value)) (hn : (i : Nat) + 1 < nL) (hl1 : ((i : Nat), Value.double x) :: lv.filter (fun q => !(q.1 == (i : Nat)) && (!(q.1 == (i : Nat) + 1) && !(q.1 + 1 == (i : Nat) && q.2.category == 2))) = lv1) (k : V p l e R s m args below meth c D A nL cells slots Q (pc + 1) lv1 (st) ws) : V p l e R s m args below meth c D A nL cells slots Q (pc) lv (.double x :: st) ws := by
  obtain ⟨hx, hb, hml, hown, hts, hK, hA, hlk, hE⟩ := hc
  intro H locs ls hl hP hD hS
  exact lv_dstore_n hx hb hd rfl hl hn hl1 (fun ls1 h1 => k H locs ls1 h1 hP hD hS)
theorem V_dstore (hc : Cx p R s m args meth c D t A nL cc Ts own) {i : Nat} {x : UInt64} (hd : decode cc pc = .ok (.dstore i, 2)) (lv1 : List (Nat × Value)) (hn : i + 1 < nL) (hl1 : (i, Value.double x) :: lv.filter (fun q => !(q.1 == i) && (!(q.1 == i + 1) && !(q.1 + 1 == i && q.2.category == 2))) = lv1) (k : V p l e R s m args below meth c D A nL cells slots Q (pc + 2) lv1 (st) ws) : V p l e R s m args below meth c D A nL cells slots Q (pc) lv (.double x :: st) ws := by
  obtain ⟨hx, hb, hml, hown, hts, hK, hA, hlk, hE⟩ := hc
  intro H locs ls hl hP hD hS
  exact lv_dstore hx hb hd hl hn hl1 (fun ls1 h1 => k H locs ls1 h1 hP hD hS)
theorem V_dret (hc : Cx p R s m args meth c D t A nL cc Ts own) (hr : meth.sig.returnType = some .double) {S : Type} {W1 : S → va_W} {post : UInt64 → S → Prop} {r : UInt64} (u : S) (hp : post r u) (hw : ws = W1 u) (hd : decode cc pc = .ok (.dreturn, 1)) : V p l e R s m args below meth c D A nL cells slots (MQ below (QDb D A W1 post) args s cells slots A) pc lv [.double r] ws := by
  obtain ⟨hx, hb, hml, hown, hts, hK, hA, hlk, hE⟩ := hc
  intro H locs ls hl hP hD hS
  subst hw
  exact W.dret (v := r) hx hb hr (fun t ht hW => ⟨⟨r, u, rfl, hp, by rw [ht]; exact hP, hD⟩, hS.F ht⟩) hS.2.2 hd hlk
end VD9
abbrev W1_X4_meanDepth (t : Nat → ClassId) (hB : Nat) (hS : Nat) (svA : Nat) (snA : Nat) (sfA : Nat) (hX : Nat) (raA : Nat) (prA : Nat) (hT : Nat) (hSf : Nat) (hSj : Nat) (seSA : Nat) (coSA : Nat) (kSfA : Nat) (dSfA : Nat) (mSfA : Nat) (hSjs : Nat) (liSjA : Nat) (quSjA : Nat) (kSjsA : Nat) (dSjsA : Nat) (mSjsA : Nat) (nsv : Int) (nSf : Int) (kSf : Nat → Int) (dSf : Nat → Int) (mSf : Nat → Int) (nlSj : Int) (ncSj : Int) (nwSj : Int) (ruSj : Int) (nSjs : Int) (kSjs : Nat → Int) (dSjs : Nat → Int) (mSjs : Nat → Int) (liSj : Nat → Int) (quSj : Nat → Int) (seS : Nat → Int) (coS : Nat → Int) (u : Unit) : va_W := [oB hB 4 [.ref hS, .ref svA, .int (iI nsv), .ref snA, .ref sfA, .ref hX, .ref raA, .ref prA, .ref hT], oB hS 2 [.ref hSf, .ref hSj, .ref seSA, .ref coSA], oB hSf 3 [.ref kSfA, .ref dSfA, .ref mSfA, .int (iI nSf)], aI t kSfA 120 kSf, aI t dSfA 120 dSf, aZ t mSfA 120 mSf, oB hSj 1 [.ref hSjs, .ref liSjA, .int (iI nlSj), .int (iI ncSj), .ref quSjA, .int (iI nwSj), .int (iI ruSj)], oB hSjs 3 [.ref kSjsA, .ref dSjsA, .ref mSjsA, .int (iI nSjs)], aI t kSjsA 120 kSjs, aI t dSjsA 120 dSjs, aZ t mSjsA 120 mSjs, aI t liSjA 120 liSj, aI t quSjA 30 quSj, aI t seSA 3 seS, aI t coSA 7 coS]
abbrev po_X4_meanDepth (Q : UInt64 → Prop) (r : UInt64) (u : Unit) : Prop := Q r
abbrev rm_X4_meanDepth : Room := { frames := 2, cells := 0, slots := 0, locals := 44 }
def wp_X4_meanDepth (nSf : Int) (dSf : Nat → Int) (mSf : Nat → Int) (Q : UInt64 → Prop) : Prop := wp_X3_presentKeys nSf mSf (fun r_1 => inR r_1 ∧ (r_1 ≠ 0 → wp_X3_sumOfDepths nSf dSf mSf 0 (fun r_2 => vf_n64 (FP.ddiv (FP.i2d (iI r_2)) (FP.i2d (iI r_1))) ∧ Q (FP.ddiv (FP.i2d (iI r_2)) (FP.i2d (iI r_1))))) ∧ (¬ (r_1 ≠ 0) → Q FP.dconst0))
theorem m_X4_meanDepth_10 : Cond.fieldLink RX4 10 "BackgroundRebuild" "state" "LBackgroundRebuild$State;" ∈ wsX4_meanDepth := by decide +kernel
theorem m_X4_meanDepth_148 : Cond.fieldLink RX4 148 "BackgroundRebuild$State" "firstTree" "LBackgroundRebuild$Tree;" ∈ wsX4_meanDepth := by decide +kernel
theorem i_X4_meanDepth_4 : ∀ w ∈ u_ws RX4 TX4 9, w ∈ wsX4_meanDepth := by decide +kernel
theorem i_X4_meanDepth_2 : ∀ w ∈ u_ws RX2 TX2 4, w ∈ wsX4_meanDepth := by decide +kernel
theorem ok_X4_meanDepth : yX4_meanDepth.cls = RX4 ∧ yX4_meanDepth.cls ≠ "java/lang/invoke/MethodHandle" ∧ yX4_meanDepth.cls ≠ "java/lang/invoke/VarHandle" ∧ (parseMethodDescriptor yX4_meanDepth.desc).map (fun d => d.parameters.length) = some 0 := by decide +kernel
set_option maxHeartbeats 4000000 in
set_option maxRecDepth 100000 in
theorem met_X4_meanDepth (l : Launch) (D : va_G) (t : Nat → ClassId) (hB : Nat) (hS : Nat) (svA : Nat) (snA : Nat) (sfA : Nat) (hX : Nat) (raA : Nat) (prA : Nat) (hT : Nat) (hSf : Nat) (hSj : Nat) (seSA : Nat) (coSA : Nat) (kSfA : Nat) (dSfA : Nat) (mSfA : Nat) (hSjs : Nat) (liSjA : Nat) (quSjA : Nat) (kSjsA : Nat) (dSjsA : Nat) (mSjsA : Nat) (nsv : Int) (nSf : Int) (kSf : Nat → Int) (dSf : Nat → Int) (mSf : Nat → Int) (nlSj : Int) (ncSj : Int) (nwSj : Int) (ruSj : Int) (nSjs : Int) (kSjs : Nat → Int) (dSjs : Nat → Int) (mSjs : Nat → Int) (liSj : Nat → Int) (quSj : Nat → Int) (seS : Nat → Int) (coS : Nat → Int) (Q : UInt64 → Prop) (hv : wp_X4_meanDepth nSf dSf mSf Q) : MD l D t yX4_meanDepth wsX4_meanDepth rm_X4_meanDepth [.ref hB] [oB hB 4 [.ref hS, .ref svA, .int (iI nsv), .ref snA, .ref sfA, .ref hX, .ref raA, .ref prA, .ref hT], oB hS 2 [.ref hSf, .ref hSj, .ref seSA, .ref coSA], oB hSf 3 [.ref kSfA, .ref dSfA, .ref mSfA, .int (iI nSf)], aI t kSfA 120 kSf, aI t dSfA 120 dSf, aZ t mSfA 120 mSf, oB hSj 1 [.ref hSjs, .ref liSjA, .int (iI nlSj), .int (iI ncSj), .ref quSjA, .int (iI nwSj), .int (iI ruSj)], oB hSjs 3 [.ref kSjsA, .ref dSjsA, .ref mSjsA, .int (iI nSjs)], aI t kSjsA 120 kSjs, aI t dSjsA 120 dSjs, aZ t mSjsA 120 mSjs, aI t liSjA 120 liSj, aI t quSjA 30 quSj, aI t seSA 3 seS, aI t coSA 7 coS] (W1_X4_meanDepth t hB hS svA snA sfA hX raA prA hT hSf hSj seSA coSA kSfA dSfA mSfA hSjs liSjA quSjA kSjsA dSjsA mSjsA nsv nSf kSf dSf mSf nlSj ncSj nwSj ruSj nSjs kSjs dSjs mSjs liSj quSj seS coS) (po_X4_meanDepth Q) 0 0 := by
  refine M_ofd (cc := cX4_meanDepth) (nL := 2) (by decide) rfl (Nat.le_of_ble_eq_true rfl) ?_
  intro p e s m args below meth c A hc hr
  refine V_lv [0] [(0, .ref hB)] rfl ?_
  unfold wp_X4_meanDepth at hv
  refine V_aload_n hc dX4_meanDepth_0 0 rfl ?_
  refine V_get (C := RX4) (T := TX4) (N := 9) hc i_X4_meanDepth_4 0 rfl rfl 0 (by decide) m_X4_meanDepth_10 rfl dX4_meanDepth_1 ?_
  refine V_get (C := RX2) (T := TX2) (N := 4) hc i_X4_meanDepth_2 1 rfl rfl 0 (by decide) m_X4_meanDepth_148 rfl dX4_meanDepth_4 ?_
  refine V_callVI (As := []) hc (wc := [oB hSf 3 [.ref kSfA, .ref dSfA, .ref mSfA, .int (iI nSf)], aI t kSfA 120 kSf, aI t dSfA 120 dSf, aZ t mSfA 120 mSf]) (wr := [oB hB 4 [.ref hS, .ref svA, .int (iI nsv), .ref snA, .ref sfA, .ref hX, .ref raA, .ref prA, .ref hT], oB hS 2 [.ref hSf, .ref hSj, .ref seSA, .ref coSA], oB hSj 1 [.ref hSjs, .ref liSjA, .int (iI nlSj), .int (iI ncSj), .ref quSjA, .int (iI nwSj), .int (iI ruSj)], oB hSjs 3 [.ref kSjsA, .ref dSjsA, .ref mSjsA, .int (iI nSjs)], aI t kSjsA 120 kSjs, aI t dSjsA 120 dSjs, aZ t mSjsA 120 mSjs, aI t liSjA 120 liSj, aI t quSjA 30 quSj, aI t seSA 3 seS, aI t coSA 7 coS]) (pmI (ws := [oB hB 4 [.ref hS, .ref svA, .int (iI nsv), .ref snA, .ref sfA, .ref hX, .ref raA, .ref prA, .ref hT], oB hS 2 [.ref hSf, .ref hSj, .ref seSA, .ref coSA], oB hSf 3 [.ref kSfA, .ref dSfA, .ref mSfA, .int (iI nSf)], aI t kSfA 120 kSf, aI t dSfA 120 dSf, aZ t mSfA 120 mSf, oB hSj 1 [.ref hSjs, .ref liSjA, .int (iI nlSj), .int (iI ncSj), .ref quSjA, .int (iI nwSj), .int (iI ruSj)], oB hSjs 3 [.ref kSjsA, .ref dSjsA, .ref mSjsA, .int (iI nSjs)], aI t kSjsA 120 kSjs, aI t dSjsA 120 dSjs, aZ t mSjsA 120 mSjs, aI t liSjA 120 liSj, aI t quSjA 30 quSj, aI t seSA 3 seS, aI t coSA 7 coS]) (ws1 := [oB hSf 3 [.ref kSfA, .ref dSfA, .ref mSfA, .int (iI nSf)], aI t kSfA 120 kSf, aI t dSfA 120 dSf, aZ t mSfA 120 mSf] ++ [oB hB 4 [.ref hS, .ref svA, .int (iI nsv), .ref snA, .ref sfA, .ref hX, .ref raA, .ref prA, .ref hT], oB hS 2 [.ref hSf, .ref hSj, .ref seSA, .ref coSA], oB hSj 1 [.ref hSjs, .ref liSjA, .int (iI nlSj), .int (iI ncSj), .ref quSjA, .int (iI nwSj), .int (iI ruSj)], oB hSjs 3 [.ref kSjsA, .ref dSjsA, .ref mSjsA, .int (iI nSjs)], aI t kSjsA 120 kSjs, aI t dSjsA 120 dSjs, aZ t mSjsA 120 mSjs, aI t liSjA 120 liSj, aI t quSjA 30 quSj, aI t seSA 3 seS, aI t coSA 7 coS]) [2, 3, 4, 5, 0, 1, 6, 7, 8, 9, 10, 11, 12, 13, 14] 15 rfl (by decide +kernel) rfl) rfl rfl (met_X3_presentKeys l D t hSf kSfA dSfA mSfA nSf kSf dSf mSf _ hv) rfl gX4_meanDepth_X3_presentKeys rfl ⟨rfl, rfl⟩ ok_X3_presentKeys (by decide) (Nat.le_of_ble_eq_true rfl) dX4_meanDepth_7 (by decide) (fun r_1 _ hv => ?_)
  try dsimp only at hv
  refine V_perm (ws1 := [oB hB 4 [.ref hS, .ref svA, .int (iI nsv), .ref snA, .ref sfA, .ref hX, .ref raA, .ref prA, .ref hT], oB hS 2 [.ref hSf, .ref hSj, .ref seSA, .ref coSA], oB hSf 3 [.ref kSfA, .ref dSfA, .ref mSfA, .int (iI nSf)], aI t kSfA 120 kSf, aI t dSfA 120 dSf, aZ t mSfA 120 mSf, oB hSj 1 [.ref hSjs, .ref liSjA, .int (iI nlSj), .int (iI ncSj), .ref quSjA, .int (iI nwSj), .int (iI ruSj)], oB hSjs 3 [.ref kSjsA, .ref dSjsA, .ref mSjsA, .int (iI nSjs)], aI t kSjsA 120 kSjs, aI t dSjsA 120 dSjs, aZ t mSjsA 120 mSjs, aI t liSjA 120 liSj, aI t quSjA 30 quSj, aI t seSA 3 seS, aI t coSA 7 coS]) (pmI (ws := [oB hSf 3 [.ref kSfA, .ref dSfA, .ref mSfA, .int (iI nSf)], aI t kSfA 120 kSf, aI t dSfA 120 dSf, aZ t mSfA 120 mSf] ++ [oB hB 4 [.ref hS, .ref svA, .int (iI nsv), .ref snA, .ref sfA, .ref hX, .ref raA, .ref prA, .ref hT], oB hS 2 [.ref hSf, .ref hSj, .ref seSA, .ref coSA], oB hSj 1 [.ref hSjs, .ref liSjA, .int (iI nlSj), .int (iI ncSj), .ref quSjA, .int (iI nwSj), .int (iI ruSj)], oB hSjs 3 [.ref kSjsA, .ref dSjsA, .ref mSjsA, .int (iI nSjs)], aI t kSjsA 120 kSjs, aI t dSjsA 120 dSjs, aZ t mSjsA 120 mSjs, aI t liSjA 120 liSj, aI t quSjA 30 quSj, aI t seSA 3 seS, aI t coSA 7 coS]) (ws1 := [oB hB 4 [.ref hS, .ref svA, .int (iI nsv), .ref snA, .ref sfA, .ref hX, .ref raA, .ref prA, .ref hT], oB hS 2 [.ref hSf, .ref hSj, .ref seSA, .ref coSA], oB hSf 3 [.ref kSfA, .ref dSfA, .ref mSfA, .int (iI nSf)], aI t kSfA 120 kSf, aI t dSfA 120 dSf, aZ t mSfA 120 mSf, oB hSj 1 [.ref hSjs, .ref liSjA, .int (iI nlSj), .int (iI ncSj), .ref quSjA, .int (iI nwSj), .int (iI ruSj)], oB hSjs 3 [.ref kSjsA, .ref dSjsA, .ref mSjsA, .int (iI nSjs)], aI t kSjsA 120 kSjs, aI t dSjsA 120 dSjs, aZ t mSjsA 120 mSjs, aI t liSjA 120 liSj, aI t quSjA 30 quSj, aI t seSA 3 seS, aI t coSA 7 coS]) [4, 5, 0, 1, 2, 3, 6, 7, 8, 9, 10, 11, 12, 13, 14] 15 rfl (by decide +kernel) rfl) ?_
  refine V_istore_n hc dX4_meanDepth_10 [(1, .int (iI r_1)), (0, .ref hB)] (by decide) rfl ?_
  refine V_iload_n hc dX4_meanDepth_11 0 rfl ?_
  refine V_if_ne (tgt := 17) hc dX4_meanDepth_12 (by decide) hv (fun hv => ?_) (fun hv => ?_)
  · refine V_aload_n hc dX4_meanDepth_17 1 rfl ?_
    refine V_get (C := RX4) (T := TX4) (N := 9) hc i_X4_meanDepth_4 0 rfl rfl 0 (by decide) m_X4_meanDepth_10 rfl dX4_meanDepth_18 ?_
    refine V_get (C := RX2) (T := TX2) (N := 4) hc i_X4_meanDepth_2 1 rfl rfl 0 (by decide) m_X4_meanDepth_148 rfl dX4_meanDepth_21 ?_
    refine V_iconst hc dX4_meanDepth_24 ?_
    refine V_callVI (As := [.int (iI 0)]) hc (wc := [oB hSf 3 [.ref kSfA, .ref dSfA, .ref mSfA, .int (iI nSf)], aI t kSfA 120 kSf, aI t dSfA 120 dSf, aZ t mSfA 120 mSf]) (wr := [oB hB 4 [.ref hS, .ref svA, .int (iI nsv), .ref snA, .ref sfA, .ref hX, .ref raA, .ref prA, .ref hT], oB hS 2 [.ref hSf, .ref hSj, .ref seSA, .ref coSA], oB hSj 1 [.ref hSjs, .ref liSjA, .int (iI nlSj), .int (iI ncSj), .ref quSjA, .int (iI nwSj), .int (iI ruSj)], oB hSjs 3 [.ref kSjsA, .ref dSjsA, .ref mSjsA, .int (iI nSjs)], aI t kSjsA 120 kSjs, aI t dSjsA 120 dSjs, aZ t mSjsA 120 mSjs, aI t liSjA 120 liSj, aI t quSjA 30 quSj, aI t seSA 3 seS, aI t coSA 7 coS]) (pmI (ws := [oB hB 4 [.ref hS, .ref svA, .int (iI nsv), .ref snA, .ref sfA, .ref hX, .ref raA, .ref prA, .ref hT], oB hS 2 [.ref hSf, .ref hSj, .ref seSA, .ref coSA], oB hSf 3 [.ref kSfA, .ref dSfA, .ref mSfA, .int (iI nSf)], aI t kSfA 120 kSf, aI t dSfA 120 dSf, aZ t mSfA 120 mSf, oB hSj 1 [.ref hSjs, .ref liSjA, .int (iI nlSj), .int (iI ncSj), .ref quSjA, .int (iI nwSj), .int (iI ruSj)], oB hSjs 3 [.ref kSjsA, .ref dSjsA, .ref mSjsA, .int (iI nSjs)], aI t kSjsA 120 kSjs, aI t dSjsA 120 dSjs, aZ t mSjsA 120 mSjs, aI t liSjA 120 liSj, aI t quSjA 30 quSj, aI t seSA 3 seS, aI t coSA 7 coS]) (ws1 := [oB hSf 3 [.ref kSfA, .ref dSfA, .ref mSfA, .int (iI nSf)], aI t kSfA 120 kSf, aI t dSfA 120 dSf, aZ t mSfA 120 mSf] ++ [oB hB 4 [.ref hS, .ref svA, .int (iI nsv), .ref snA, .ref sfA, .ref hX, .ref raA, .ref prA, .ref hT], oB hS 2 [.ref hSf, .ref hSj, .ref seSA, .ref coSA], oB hSj 1 [.ref hSjs, .ref liSjA, .int (iI nlSj), .int (iI ncSj), .ref quSjA, .int (iI nwSj), .int (iI ruSj)], oB hSjs 3 [.ref kSjsA, .ref dSjsA, .ref mSjsA, .int (iI nSjs)], aI t kSjsA 120 kSjs, aI t dSjsA 120 dSjs, aZ t mSjsA 120 mSjs, aI t liSjA 120 liSj, aI t quSjA 30 quSj, aI t seSA 3 seS, aI t coSA 7 coS]) [2, 3, 4, 5, 0, 1, 6, 7, 8, 9, 10, 11, 12, 13, 14] 15 rfl (by decide +kernel) rfl) rfl rfl (met_X3_sumOfDepths l D t hSf kSfA dSfA mSfA nSf kSf dSf mSf 0 _ hv) rfl gX4_meanDepth_X3_sumOfDepths rfl ⟨rfl, rfl⟩ ok_X3_sumOfDepths (by decide) (Nat.le_of_ble_eq_true rfl) dX4_meanDepth_25 (by decide) (fun r_2 _ hv => ?_)
    try dsimp only at hv
    refine V_perm (ws1 := [oB hB 4 [.ref hS, .ref svA, .int (iI nsv), .ref snA, .ref sfA, .ref hX, .ref raA, .ref prA, .ref hT], oB hS 2 [.ref hSf, .ref hSj, .ref seSA, .ref coSA], oB hSf 3 [.ref kSfA, .ref dSfA, .ref mSfA, .int (iI nSf)], aI t kSfA 120 kSf, aI t dSfA 120 dSf, aZ t mSfA 120 mSf, oB hSj 1 [.ref hSjs, .ref liSjA, .int (iI nlSj), .int (iI ncSj), .ref quSjA, .int (iI nwSj), .int (iI ruSj)], oB hSjs 3 [.ref kSjsA, .ref dSjsA, .ref mSjsA, .int (iI nSjs)], aI t kSjsA 120 kSjs, aI t dSjsA 120 dSjs, aZ t mSjsA 120 mSjs, aI t liSjA 120 liSj, aI t quSjA 30 quSj, aI t seSA 3 seS, aI t coSA 7 coS]) (pmI (ws := [oB hSf 3 [.ref kSfA, .ref dSfA, .ref mSfA, .int (iI nSf)], aI t kSfA 120 kSf, aI t dSfA 120 dSf, aZ t mSfA 120 mSf] ++ [oB hB 4 [.ref hS, .ref svA, .int (iI nsv), .ref snA, .ref sfA, .ref hX, .ref raA, .ref prA, .ref hT], oB hS 2 [.ref hSf, .ref hSj, .ref seSA, .ref coSA], oB hSj 1 [.ref hSjs, .ref liSjA, .int (iI nlSj), .int (iI ncSj), .ref quSjA, .int (iI nwSj), .int (iI ruSj)], oB hSjs 3 [.ref kSjsA, .ref dSjsA, .ref mSjsA, .int (iI nSjs)], aI t kSjsA 120 kSjs, aI t dSjsA 120 dSjs, aZ t mSjsA 120 mSjs, aI t liSjA 120 liSj, aI t quSjA 30 quSj, aI t seSA 3 seS, aI t coSA 7 coS]) (ws1 := [oB hB 4 [.ref hS, .ref svA, .int (iI nsv), .ref snA, .ref sfA, .ref hX, .ref raA, .ref prA, .ref hT], oB hS 2 [.ref hSf, .ref hSj, .ref seSA, .ref coSA], oB hSf 3 [.ref kSfA, .ref dSfA, .ref mSfA, .int (iI nSf)], aI t kSfA 120 kSf, aI t dSfA 120 dSf, aZ t mSfA 120 mSf, oB hSj 1 [.ref hSjs, .ref liSjA, .int (iI nlSj), .int (iI ncSj), .ref quSjA, .int (iI nwSj), .int (iI ruSj)], oB hSjs 3 [.ref kSjsA, .ref dSjsA, .ref mSjsA, .int (iI nSjs)], aI t kSjsA 120 kSjs, aI t dSjsA 120 dSjs, aZ t mSjsA 120 mSjs, aI t liSjA 120 liSj, aI t quSjA 30 quSj, aI t seSA 3 seS, aI t coSA 7 coS]) [4, 5, 0, 1, 2, 3, 6, 7, 8, 9, 10, 11, 12, 13, 14] 15 rfl (by decide +kernel) rfl) ?_
    refine V_i2d hc dX4_meanDepth_28 ?_
    refine V_iload_n hc dX4_meanDepth_29 0 rfl ?_
    refine V_i2d hc dX4_meanDepth_30 ?_
    refine V_ddiv hc dX4_meanDepth_31 hv (fun hv => ?_)
    exact V_dret hc hr () hv rfl dX4_meanDepth_32
  · refine V_dconst0 hc dX4_meanDepth_15 ?_
    exact V_dret hc hr () hv rfl dX4_meanDepth_16
abbrev W1_X5_meanDepth (t : Nat → ClassId) (hM : Nat) (zA : Nat) (spA : Nat) (svA : Nat) (soA : Nat) (ikA : Nat) (txA : Nat) (viA : Nat) (srA : Nat) (frA : Nat) (toA : Nat) (hoA : Nat) (keA : Nat) (nsv : Int) (len : Int) (nto : Int) (spo : Int) (mos : Int) (z : Nat → Int) (sp : Nat → Int) (sv : Nat → Int) (so : Nat → Int) (ik : Nat → Int) (tx : Nat → Int) (sr : Nat → Int) (fr : Nat → Int) (to : Nat → Int) (ho : Nat → Int) (ke : Nat → Int) (u : (Int) × (Int) × (Int) × (Int) × (Nat → Int)) : va_W := [oB hM 5 [.ref zA, .ref spA, .ref svA, .int (iI nsv), .ref soA, .ref ikA, .ref txA, .int (iI len), .int (iI u.1), .int (iI u.2.1), .ref viA, .int (iI u.2.2.1), .int (iI u.2.2.2.1), .ref srA, .ref frA, .ref toA, .ref hoA, .ref keA, .int (iI nto), .int (iI spo), .int (iI mos)], aI t zA 646 z, aI t spA 646 sp, aI t svA 3876 sv, aI t soA 1292 so, aZ t ikA 2 ik, aI t txA 60 tx, aI t viA 120 u.2.2.2.2, aI t srA 120 sr, aI t frA 122 fr, aI t toA 122 to, aI t hoA 31 ho, aI t keA 31 ke]
abbrev po_X5_meanDepth (Q : UInt64 → (Int) → (Int) → (Int) → (Int) → (Nat → Int) → Prop) (r : UInt64) (u : (Int) × (Int) × (Int) × (Int) × (Nat → Int)) : Prop := Q r u.1 u.2.1 u.2.2.1 u.2.2.2.1 u.2.2.2.2
abbrev rm_X5_meanDepth : Room := { frames := 2, cells := 0, slots := 0, locals := 47 }
def wp_X5_meanDepth_11 (thr : Int) (z : Nat → Int) (Q : UInt64 → (Int) → (Int) → (Int) → (Int) → (Nat → Int) → Prop) (K_11 : (Int) → (Int) → (Int) → (Nat → Int) → Int → Int → Int → Prop) (nvi : Int) (low : Int) (high : Int) (vi : Nat → Int) (x1 : Int) (x2 : Int) (x3 : Int) : Prop := inR x3 ∧ inR (z 0) ∧ (x3 ≥ z 0 → inR x2 ∧ (x2 ≠ 0 → vf_n64 (FP.ddiv (FP.i2d (iI x1)) (FP.i2d (iI x2))) ∧ Q (FP.ddiv (FP.i2d (iI x1)) (FP.i2d (iI x2))) thr nvi low high vi) ∧ (¬ (x2 ≠ 0) → Q FP.dconst0 thr nvi low high vi)) ∧ (¬ (x3 ≥ z 0) → (0 ≤ 121 + x3 ∧ 121 + x3 < 646) ∧ inR (z (121 + x3).toNat) ∧ (z (121 + x3).toNat ≠ 0 → K_11 nvi low high vi x1 x2 (x3 + 1)) ∧ (¬ (z (121 + x3).toNat ≠ 0) → (0 ≤ 1 + x3 ∧ 1 + x3 < 646) ∧ wp_X5_depthOf nvi low high z vi 0 (z (1 + x3).toNat) (fun r_1 nvi_1 low_1 high_1 vi_1 => K_11 nvi_1 low_1 high_1 vi_1 (x1 + r_1) (x2 + 1) (x3 + 1))))
def wp_X5_meanDepth (thr : Int) (nvi : Int) (low : Int) (high : Int) (z : Nat → Int) (vi : Nat → Int) (Q : UInt64 → (Int) → (Int) → (Int) → (Int) → (Nat → Int) → Prop) : Prop := (∃ n, lq7 (wp_X5_meanDepth_11 0 z Q) n nvi low high vi 0 0 0)
theorem m_X5_meanDepth_47 : Cond.fieldLink RX5 47 "BackgroundRebuildModel" "thrown" "I" ∈ wsX5_meanDepth := by decide +kernel
theorem m_X5_meanDepth_7 : Cond.fieldLink RX5 7 "BackgroundRebuildModel" "z" "[I" ∈ wsX5_meanDepth := by decide +kernel
theorem i_X5_meanDepth_5 : ∀ w ∈ u_ws RX5 TX5 21, w ∈ wsX5_meanDepth := by decide +kernel
theorem ok_X5_meanDepth : yX5_meanDepth.cls = RX5 ∧ yX5_meanDepth.cls ≠ "java/lang/invoke/MethodHandle" ∧ yX5_meanDepth.cls ≠ "java/lang/invoke/VarHandle" ∧ (parseMethodDescriptor yX5_meanDepth.desc).map (fun d => d.parameters.length) = some 0 := by decide +kernel
set_option maxHeartbeats 4000000 in
set_option maxRecDepth 100000 in
theorem met_X5_meanDepth (l : Launch) (D : va_G) (t : Nat → ClassId) (hM : Nat) (zA : Nat) (spA : Nat) (svA : Nat) (soA : Nat) (ikA : Nat) (txA : Nat) (viA : Nat) (srA : Nat) (frA : Nat) (toA : Nat) (hoA : Nat) (keA : Nat) (nsv : Int) (len : Int) (thr : Int) (nvi : Int) (low : Int) (high : Int) (nto : Int) (spo : Int) (mos : Int) (z : Nat → Int) (sp : Nat → Int) (sv : Nat → Int) (so : Nat → Int) (ik : Nat → Int) (tx : Nat → Int) (vi : Nat → Int) (sr : Nat → Int) (fr : Nat → Int) (to : Nat → Int) (ho : Nat → Int) (ke : Nat → Int) (Q : UInt64 → (Int) → (Int) → (Int) → (Int) → (Nat → Int) → Prop) (hv : wp_X5_meanDepth thr nvi low high z vi Q) : MD l D t yX5_meanDepth wsX5_meanDepth rm_X5_meanDepth [.ref hM] [oB hM 5 [.ref zA, .ref spA, .ref svA, .int (iI nsv), .ref soA, .ref ikA, .ref txA, .int (iI len), .int (iI thr), .int (iI nvi), .ref viA, .int (iI low), .int (iI high), .ref srA, .ref frA, .ref toA, .ref hoA, .ref keA, .int (iI nto), .int (iI spo), .int (iI mos)], aI t zA 646 z, aI t spA 646 sp, aI t svA 3876 sv, aI t soA 1292 so, aZ t ikA 2 ik, aI t txA 60 tx, aI t viA 120 vi, aI t srA 120 sr, aI t frA 122 fr, aI t toA 122 to, aI t hoA 31 ho, aI t keA 31 ke] (W1_X5_meanDepth t hM zA spA svA soA ikA txA viA srA frA toA hoA keA nsv len nto spo mos z sp sv so ik tx sr fr to ho ke) (po_X5_meanDepth Q) 0 0 := by
  refine M_ofd (cc := cX5_meanDepth) (nL := 7) (by decide) rfl (Nat.le_of_ble_eq_true rfl) ?_
  intro p e s m args below meth c A hc hr
  have L_11 : ∀ (thr : Int) (z : Nat → Int) (n9 : Nat) (nvi : Int) (low : Int) (high : Int) (vi : Nat → Int) (x1 : Int) (x2 : Int) (x3 : Int), lq7 (wp_X5_meanDepth_11 thr z Q) n9 nvi low high vi x1 x2 x3 → V p l e rm_X5_meanDepth s m args below meth c D A 7 0 0 (MQ below (QDb D A (W1_X5_meanDepth t hM zA spA svA soA ikA txA viA srA frA toA hoA keA nsv len nto spo mos z sp sv so ik tx sr fr to ho ke) (po_X5_meanDepth Q)) args s 0 0 A) 11 [(0, .ref hM), (1, .int (iI x1)), (2, .int (iI x2)), (3, .int (iI x3))] [] [oB hM 5 [.ref zA, .ref spA, .ref svA, .int (iI nsv), .ref soA, .ref ikA, .ref txA, .int (iI len), .int (iI thr), .int (iI nvi), .ref viA, .int (iI low), .int (iI high), .ref srA, .ref frA, .ref toA, .ref hoA, .ref keA, .int (iI nto), .int (iI spo), .int (iI mos)], aI t zA 646 z, aI t spA 646 sp, aI t svA 3876 sv, aI t soA 1292 so, aZ t ikA 2 ik, aI t txA 60 tx, aI t viA 120 vi, aI t srA 120 sr, aI t frA 122 fr, aI t toA 122 to, aI t hoA 31 ho, aI t keA 31 ke] := by
    intro thr z n9
    induction n9 with
    | zero =>
      intro nvi low high vi x1 x2 x3 hv
      exact hv.elim
    | succ n9 ih =>
      intro nvi low high vi x1 x2 x3 hv
      have hv : wp_X5_meanDepth_11 thr z Q (lq7 (wp_X5_meanDepth_11 thr z Q) n9) nvi low high vi x1 x2 x3 := hv
      generalize lq7 (wp_X5_meanDepth_11 thr z Q) n9 = K_11 at hv ih
      have hK_11 := ih
      unfold wp_X5_meanDepth_11 at hv
      refine V_iload_n hc dX5_meanDepth_11 3 rfl ?_
      refine V_aload_n hc dX5_meanDepth_12 0 rfl ?_
      refine V_get (C := RX5) (T := TX5) (N := 21) hc i_X5_meanDepth_5 0 rfl rfl 0 (by decide) m_X5_meanDepth_7 rfl dX5_meanDepth_13 ?_
      refine V_iconst hc dX5_meanDepth_16 ?_
      refine V_iald hc 1 rfl (by decide) ⟨by decide, hv⟩ dX5_meanDepth_17 (fun hv => ?_)
      refine V_icmp_ge (tgt := 58) hc dX5_meanDepth_18 (by decide) hv (fun hv => ?_) (fun hv => ?_)
      · refine V_iload_n hc dX5_meanDepth_58 1 rfl ?_
        refine V_i2d hc dX5_meanDepth_59 ?_
        refine V_dstore_n hc dX5_meanDepth_60 [(3, .double (FP.i2d (iI x1))), (0, .ref hM), (1, .int (iI x1)), (2, .int (iI x2))] (by decide) rfl ?_
        refine V_iload_n hc dX5_meanDepth_61 3 rfl ?_
        refine V_i2d hc dX5_meanDepth_62 ?_
        refine V_dstore hc dX5_meanDepth_63 [(5, .double (FP.i2d (iI x2))), (3, .double (FP.i2d (iI x1))), (0, .ref hM), (1, .int (iI x1)), (2, .int (iI x2))] (by decide) rfl ?_
        refine V_iload_n hc dX5_meanDepth_65 4 rfl ?_
        refine V_if_ne (tgt := 73) hc dX5_meanDepth_66 (by decide) hv (fun hv => ?_) (fun hv => ?_)
        · refine V_dload_n hc dX5_meanDepth_73 1 rfl ?_
          refine V_dload hc dX5_meanDepth_74 0 rfl ?_
          refine V_ddiv hc dX5_meanDepth_76 hv (fun hv => ?_)
          exact V_dret hc hr (thr, nvi, low, high, vi) hv rfl dX5_meanDepth_77
        · refine V_dconst0 hc dX5_meanDepth_69 ?_
          refine V_goto (tgt := 77) hc dX5_meanDepth_70 (by decide) ?_
          exact V_dret hc hr (thr, nvi, low, high, vi) hv rfl dX5_meanDepth_77
      · refine V_aload_n hc dX5_meanDepth_21 0 rfl ?_
        refine V_get (C := RX5) (T := TX5) (N := 21) hc i_X5_meanDepth_5 0 rfl rfl 0 (by decide) m_X5_meanDepth_7 rfl dX5_meanDepth_22 ?_
        refine V_bipush hc dX5_meanDepth_25 (by decide) ?_
        refine V_iload_n hc dX5_meanDepth_27 3 rfl ?_
        refine V_iadd hc dX5_meanDepth_28 ?_
        refine V_iald hc 1 rfl (by decide) hv dX5_meanDepth_29 (fun hv => ?_)
        refine V_if_ne (tgt := 52) hc dX5_meanDepth_30 (by decide) hv (fun hv => ?_) (fun hv => ?_)
        · refine V_iinc hc dX5_meanDepth_52 3 rfl [(3, .int (iI (x3 + 1))), (0, .ref hM), (1, .int (iI x1)), (2, .int (iI x2))] (by decide) rfl ?_
          refine V_goto (tgt := 11) hc dX5_meanDepth_55 (by decide) ?_
          refine V_lv [1, 2, 3, 0] [(0, .ref hM), (1, .int (iI x1)), (2, .int (iI x2)), (3, .int (iI (x3 + 1)))] rfl ?_
          exact hK_11 nvi low high vi x1 x2 (x3 + 1) hv
        · refine V_iload_n hc dX5_meanDepth_33 1 rfl ?_
          refine V_aload_n hc dX5_meanDepth_34 0 rfl ?_
          refine V_iconst hc dX5_meanDepth_35 ?_
          refine V_aload_n hc dX5_meanDepth_36 0 rfl ?_
          refine V_get (C := RX5) (T := TX5) (N := 21) hc i_X5_meanDepth_5 0 rfl rfl 0 (by decide) m_X5_meanDepth_7 rfl dX5_meanDepth_37 ?_
          refine V_iconst hc dX5_meanDepth_40 ?_
          refine V_iload_n hc dX5_meanDepth_41 3 rfl ?_
          refine V_iadd hc dX5_meanDepth_42 ?_
          refine V_iald hc 1 rfl (by decide) hv dX5_meanDepth_43 (fun hv => ?_)
          refine V_callVI (As := [.int (iI 0), .int (iI (z (1 + x3).toNat))]) hc (wc := [oB hM 5 [.ref zA, .ref spA, .ref svA, .int (iI nsv), .ref soA, .ref ikA, .ref txA, .int (iI len), .int (iI thr), .int (iI nvi), .ref viA, .int (iI low), .int (iI high), .ref srA, .ref frA, .ref toA, .ref hoA, .ref keA, .int (iI nto), .int (iI spo), .int (iI mos)], aI t zA 646 z, aI t spA 646 sp, aI t svA 3876 sv, aI t soA 1292 so, aZ t ikA 2 ik, aI t txA 60 tx, aI t viA 120 vi, aI t srA 120 sr, aI t frA 122 fr, aI t toA 122 to, aI t hoA 31 ho, aI t keA 31 ke]) (wr := []) (pmI (ws := [oB hM 5 [.ref zA, .ref spA, .ref svA, .int (iI nsv), .ref soA, .ref ikA, .ref txA, .int (iI len), .int (iI thr), .int (iI nvi), .ref viA, .int (iI low), .int (iI high), .ref srA, .ref frA, .ref toA, .ref hoA, .ref keA, .int (iI nto), .int (iI spo), .int (iI mos)], aI t zA 646 z, aI t spA 646 sp, aI t svA 3876 sv, aI t soA 1292 so, aZ t ikA 2 ik, aI t txA 60 tx, aI t viA 120 vi, aI t srA 120 sr, aI t frA 122 fr, aI t toA 122 to, aI t hoA 31 ho, aI t keA 31 ke]) (ws1 := [oB hM 5 [.ref zA, .ref spA, .ref svA, .int (iI nsv), .ref soA, .ref ikA, .ref txA, .int (iI len), .int (iI thr), .int (iI nvi), .ref viA, .int (iI low), .int (iI high), .ref srA, .ref frA, .ref toA, .ref hoA, .ref keA, .int (iI nto), .int (iI spo), .int (iI mos)], aI t zA 646 z, aI t spA 646 sp, aI t svA 3876 sv, aI t soA 1292 so, aZ t ikA 2 ik, aI t txA 60 tx, aI t viA 120 vi, aI t srA 120 sr, aI t frA 122 fr, aI t toA 122 to, aI t hoA 31 ho, aI t keA 31 ke] ++ []) [0, 1, 2, 3, 4, 5, 6, 7, 8, 9, 10, 11, 12] 13 rfl (by decide +kernel) rfl) rfl rfl (met_X5_depthOf l D t hM zA spA svA soA ikA txA viA srA frA toA hoA keA nsv len thr nvi low high nto spo mos z sp sv so ik tx vi sr fr to ho ke 0 (z (1 + x3).toNat) _ hv) rfl gX5_meanDepth_X5_depthOf rfl ⟨rfl, rfl⟩ ok_X5_depthOf (by decide) (Nat.le_of_ble_eq_true rfl) dX5_meanDepth_44 (by decide) (fun r_1 u9 hv => ?_)
          obtain ⟨nvi_1, low_1, high_1, vi_1⟩ := u9
          try dsimp only at hv
          refine V_perm (ws1 := [oB hM 5 [.ref zA, .ref spA, .ref svA, .int (iI nsv), .ref soA, .ref ikA, .ref txA, .int (iI len), .int (iI thr), .int (iI nvi_1), .ref viA, .int (iI low_1), .int (iI high_1), .ref srA, .ref frA, .ref toA, .ref hoA, .ref keA, .int (iI nto), .int (iI spo), .int (iI mos)], aI t zA 646 z, aI t spA 646 sp, aI t svA 3876 sv, aI t soA 1292 so, aZ t ikA 2 ik, aI t txA 60 tx, aI t viA 120 vi_1, aI t srA 120 sr, aI t frA 122 fr, aI t toA 122 to, aI t hoA 31 ho, aI t keA 31 ke]) (pmI (ws := [oB hM 5 [.ref zA, .ref spA, .ref svA, .int (iI nsv), .ref soA, .ref ikA, .ref txA, .int (iI len), .int (iI thr), .int (iI nvi_1), .ref viA, .int (iI low_1), .int (iI high_1), .ref srA, .ref frA, .ref toA, .ref hoA, .ref keA, .int (iI nto), .int (iI spo), .int (iI mos)], aI t zA 646 z, aI t spA 646 sp, aI t svA 3876 sv, aI t soA 1292 so, aZ t ikA 2 ik, aI t txA 60 tx, aI t viA 120 vi_1, aI t srA 120 sr, aI t frA 122 fr, aI t toA 122 to, aI t hoA 31 ho, aI t keA 31 ke] ++ []) (ws1 := [oB hM 5 [.ref zA, .ref spA, .ref svA, .int (iI nsv), .ref soA, .ref ikA, .ref txA, .int (iI len), .int (iI thr), .int (iI nvi_1), .ref viA, .int (iI low_1), .int (iI high_1), .ref srA, .ref frA, .ref toA, .ref hoA, .ref keA, .int (iI nto), .int (iI spo), .int (iI mos)], aI t zA 646 z, aI t spA 646 sp, aI t svA 3876 sv, aI t soA 1292 so, aZ t ikA 2 ik, aI t txA 60 tx, aI t viA 120 vi_1, aI t srA 120 sr, aI t frA 122 fr, aI t toA 122 to, aI t hoA 31 ho, aI t keA 31 ke]) [0, 1, 2, 3, 4, 5, 6, 7, 8, 9, 10, 11, 12] 13 rfl (by decide +kernel) rfl) ?_
          refine V_iadd hc dX5_meanDepth_47 ?_
          refine V_istore_n hc dX5_meanDepth_48 [(1, .int (iI (x1 + r_1))), (0, .ref hM), (2, .int (iI x2)), (3, .int (iI x3))] (by decide) rfl ?_
          refine V_iinc hc dX5_meanDepth_49 2 rfl [(2, .int (iI (x2 + 1))), (1, .int (iI (x1 + r_1))), (0, .ref hM), (3, .int (iI x3))] (by decide) rfl ?_
          refine V_iinc hc dX5_meanDepth_52 3 rfl [(3, .int (iI (x3 + 1))), (2, .int (iI (x2 + 1))), (1, .int (iI (x1 + r_1))), (0, .ref hM)] (by decide) rfl ?_
          refine V_goto (tgt := 11) hc dX5_meanDepth_55 (by decide) ?_
          refine V_lv [3, 2, 1, 0] [(0, .ref hM), (1, .int (iI (x1 + r_1))), (2, .int (iI (x2 + 1))), (3, .int (iI (x3 + 1)))] rfl ?_
          exact hK_11 nvi_1 low_1 high_1 vi_1 (x1 + r_1) (x2 + 1) (x3 + 1) hv
  refine V_lv [0] [(0, .ref hM)] rfl ?_
  unfold wp_X5_meanDepth at hv
  refine V_aload_n hc dX5_meanDepth_0 0 rfl ?_
  refine V_iconst hc dX5_meanDepth_1 ?_
  refine V_puti (C := RX5) (T := TX5) (N := 21) hc i_X5_meanDepth_5 0 rfl rfl 8 (by decide) m_X5_meanDepth_47 tyX5 tyX5_ok nmX5 rfl (by decide +kernel) (Nat.le_of_ble_eq_true rfl) dX5_meanDepth_2 [oB hM 5 [.ref zA, .ref spA, .ref svA, .int (iI nsv), .ref soA, .ref ikA, .ref txA, .int (iI len), .int (iI 0), .int (iI nvi), .ref viA, .int (iI low), .int (iI high), .ref srA, .ref frA, .ref toA, .ref hoA, .ref keA, .int (iI nto), .int (iI spo), .int (iI mos)], aI t zA 646 z, aI t spA 646 sp, aI t svA 3876 sv, aI t soA 1292 so, aZ t ikA 2 ik, aI t txA 60 tx, aI t viA 120 vi, aI t srA 120 sr, aI t frA 122 fr, aI t toA 122 to, aI t hoA 31 ho, aI t keA 31 ke] rfl ?_
  refine V_iconst hc dX5_meanDepth_5 ?_
  refine V_istore_n hc dX5_meanDepth_6 [(1, .int (iI 0)), (0, .ref hM)] (by decide) rfl ?_
  refine V_iconst hc dX5_meanDepth_7 ?_
  refine V_istore_n hc dX5_meanDepth_8 [(2, .int (iI 0)), (1, .int (iI 0)), (0, .ref hM)] (by decide) rfl ?_
  refine V_iconst hc dX5_meanDepth_9 ?_
  refine V_istore_n hc dX5_meanDepth_10 [(3, .int (iI 0)), (2, .int (iI 0)), (1, .int (iI 0)), (0, .ref hM)] (by decide) rfl ?_
  refine V_lv [3, 2, 1, 0] [(0, .ref hM), (1, .int (iI 0)), (2, .int (iI 0)), (3, .int (iI 0))] rfl ?_
  obtain ⟨n9, hv⟩ := hv
  exact L_11 0 z n9 nvi low high vi 0 0 0 hv
