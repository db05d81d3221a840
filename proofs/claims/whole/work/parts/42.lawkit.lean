/-! the law's own rows -/
theorem iI_x (x : Int32) : iI x.toInt = x := Int32.ofInt_toInt x
theorem inR_x (x : Int32) : inR x.toInt := ⟨by have := Int32.le_toInt x; omega, by have := Int32.toInt_lt x; omega⟩
theorem rl_rg {ok : Int → aW → Prop} {ref : Int → Prop} {σ σ' : aW} {o v : Int} (h : rl ok ref σ o v σ') (hr : ∀ o, ref o → o = 1 ∨ o = 2) : 0 ≤ o ∧ o ≤ 2 := by
  rcases h with ⟨h, -⟩ | ⟨h, -⟩
  · omega
  · have := hr o h
    omega
theorem pL1 (J M C : va_W) : (J ++ (M ++ C)).Perm ((C ++ J) ++ M) := by
  refine List.perm_append_comm.trans ?_
  rw [List.append_assoc]
  exact List.perm_append_comm
theorem pL2 (J M C : va_W) : (M ++ (C ++ J)).Perm (J ++ (M ++ C)) := by
  rw [← List.append_assoc]
  exact List.perm_append_comm
theorem pL3 {J M C wc wr : va_W} (h : C.Perm (wc ++ wr)) : (J ++ (M ++ C)).Perm (wc ++ (wr ++ (J ++ M))) := by
  rw [← List.append_assoc J M C, ← List.append_assoc wc wr]
  exact List.perm_append_comm.trans (h.append_right _)
theorem pL4 (W wr J M : va_W) : (W ++ (wr ++ (J ++ M))).Perm (M ++ (J ++ (W ++ wr))) := by
  rw [← List.append_assoc W wr, ← List.append_assoc M J]
  refine List.perm_append_comm.trans ?_
  exact List.perm_append_comm.append_right _
theorem pL5 (M J C : va_W) : (M ++ (J ++ C)).Perm (J ++ (M ++ C)) := pmid M J C
section VLW
variable {p : Program} {l : Launch} {e : Env} {R : Room} {s : State} {m : MethodId} {args : Array Value} {below : List Frame} {meth : Method} {c : Code} {D : va_G} {t : Nat → ClassId} {A : Nat → Prop} {nL : Nat} {cc : ByteArray} {Ts : List Cond} {own : String} {cells slots : Nat} {Q : State → Prop} {pc : Nat} {lv : List (Nat × Value)} {st : List Value} {ws : va_W}
theorem V_sld (hc : Cx p R s m args meth c D t A nL cc Ts own) {b L : Nat} {xs : Nat → Int32} (hX : va_X b L xs s s.heap) (hbl : b < s.heap.size) (hbA : ¬ A b) {j : Int} (hj : 0 ≤ j ∧ j < L) (hL : L ≤ 2048) (hd : decode cc pc = .ok (.iaload, 1)) (k : V p l e R s m args below meth c D A nL cells slots Q (pc + 1) lv (.int (iI ((xs j.toNat).toInt)) :: st) ws) : V p l e R s m args below meth c D A nL cells slots Q pc lv (.int (iI j) :: .ref b :: st) ws := by
  obtain ⟨hx, hb, hml, hown, hts, hK, hA, hlk, hE⟩ := hc
  intro H locs ls hl hP hD hS
  refine va_sld hx hb hX hbl hbA hS (iI_in (by omega) hj.1 hj.2) hd ?_
  rw [iI_cl (by omega), ← iI_x (xs j.toNat)]
  exact k H locs ls hl hP hD hS
theorem V_slen (hc : Cx p R s m args meth c D t A nL cc Ts own) {b L : Nat} {xs : Nat → Int32} (hX : va_X b L xs s s.heap) (hbl : b < s.heap.size) (hbA : ¬ A b) (hd : decode cc pc = .ok (.arraylength, 1)) (k : V p l e R s m args below meth c D A nL cells slots Q (pc + 1) lv (.int (iI (L : Int)) :: st) ws) : V p l e R s m args below meth c D A nL cells slots Q pc lv (.ref b :: st) ws := by
  obtain ⟨hx, hb, hml, hown, hts, hK, hA, hlk, hE⟩ := hc
  intro H locs ls hl hP hD hS
  refine va_slen hx hb hX hbl hbA hS hd ?_
  have e9 : Int32.ofNat L = iI (L : Int) := (iI_nat L).symm
  rw [e9]
  exact k H locs ls hl hP hD hS
theorem V_iand (hc : Cx p R s m args meth c D t A nL cc Ts own) {x y : Int32} (hd : decode cc pc = .ok (.iand, 1)) (k : V p l e R s m args below meth c D A nL cells slots Q (pc + 1) lv (.int (iI (x &&& y).toInt) :: st) ws) : V p l e R s m args below meth c D A nL cells slots Q pc lv (.int y :: .int x :: st) ws := by
  obtain ⟨hx, hb, hml, hown, hts, hK, hA, hlk, hE⟩ := hc
  intro H locs ls hl hP hD hS
  refine lv_iand hx hb hd ?_
  rw [← iI_x (x &&& y)]
  exact k H locs ls hl hP hD hS
theorem V_eqT (hc : Cx p R s m args meth c D t A nL cc Ts own) {x y : Int32} {off : Int} {tgt : Nat} (hd : decode cc pc = .ok (.if_icmp .eq off, 3)) (ht : (pc : Int) + off = (tgt : Int)) (h : x = y) (k : V p l e R s m args below meth c D A nL cells slots Q tgt lv st ws) : V p l e R s m args below meth c D A nL cells slots Q pc lv (.int y :: .int x :: st) ws := by
  obtain ⟨hx, hb, hml, hown, hts, hK, hA, hlk, hE⟩ := hc
  intro H locs ls hl hP hD hS
  exact lv_icmp_eq hx hb hd ht (fun _ => k H locs ls hl hP hD hS) (fun q => absurd h q)
theorem V_lcmpT (hc : Cx p R s m args meth c D t A nL cc Ts own) {x y : Int64} (hd : decode cc pc = .ok (.lcmp, 1)) (h : x = y) (k : V p l e R s m args below meth c D A nL cells slots Q (pc + 1) lv (.int (iI 0) :: st) ws) : V p l e R s m args below meth c D A nL cells slots Q pc lv (.long y :: .long x :: st) ws := by
  obtain ⟨hx, hb, hml, hown, hts, hK, hA, hlk, hE⟩ := hc
  intro H locs ls hl hP hD hS
  subst h
  refine W.lcmp hx hb hd ?_
  have e1 : lg_cmp x x = 0 := by simp [lg_cmp]
  rw [e1]
  exact k H locs ls hl hP hD hS
theorem V_dcmpT (hc : Cx p R s m args meth c D t A nL cc Ts own) {x : UInt64} {op : CmpOp} (hd : decode cc pc = .ok (.dcmp op, 1)) (h : FP.dcmp x x = some .eq) (k : V p l e R s m args below meth c D A nL cells slots Q (pc + 1) lv (.int (iI 0) :: st) ws) : V p l e R s m args below meth c D A nL cells slots Q pc lv (.double x :: .double x :: st) ws := by
  obtain ⟨hx, hb, hml, hown, hts, hK, hA, hlk, hE⟩ := hc
  intro H locs ls hl hP hD hS
  refine lv_dcmp hx hb hd ?_
  rw [h]
  exact k H locs ls hl hP hD hS
theorem PcG.at (hc : Cx p R s m args meth c D t A nL cc Ts own) (hG : Gx s) {H : Heap} {locs : List Loc} (hP : va_P D vwCl ws H) (hD : va_D A ws) (hS : va_S A s.heap H locs) {wc wr : va_W} (hp : ws.Perm (wc ++ wr)) (av : List Value) : ∀ U : State, U.heap = H → s.WarmedH U.vm → PcG D t av wc H.size av.toArray U := by
  intro U hU hW
  obtain ⟨a1, a2, a3, a4, a5, a6⟩ := PcE.at hc hP hD hS hp av U hU hW
  exact ⟨a1, a2, a3, a4, a5, a6, hG.moved hW.alike⟩
theorem V_callW (hc : Cx p R s m args meth c D t A nL cc Ts own) (hG : Gx s) {y : MethodName} {bytes : ByteArray} {maxL mc ms index : Nat} {hh : List (Nat × Nat × Nat × Nat)} {wsy wsy1 : List Cond} {rm : Room} {As st0 : List Value} {S : Type} {W1 : S → va_W} {post : Int → S → Prop} {wc wr : va_W} (hp : ws.Perm (wc ++ wr)) (hM : MWi l D t y wsy rm As wc W1 post mc ms) (hst : st0 = As.reverse ++ st) (hg : GoodIn Ts (va_wsS own index y wsy)) (hwy : wsy = Cond.codeWith y bytes maxL (some .int) hh :: wsy1) (hmr : rm.cells = mc ∧ rm.slots = ms) (hdy : y.cls ≠ "java/lang/invoke/MethodHandle" ∧ y.cls ≠ "java/lang/invoke/VarHandle" ∧ (parseMethodDescriptor y.desc).map (fun d => d.parameters.length) = some As.length) (hRm : rm.frames + 1 ≤ R.frames ∧ 8 + (maxL + 11) + rm.locals ≤ R.locals) (hroom : (st.map fun v => v.category).sum ≤ 8) (hd : decode cc pc = .ok (.invokestatic index, 3)) (hfit : cells + mc ≤ R.cells ∧ slots + ms ≤ R.slots) (k : ∀ (r : Int) (u : S), post r u → V p l e R s m args below meth c D A nL (cells + mc) (slots + ms) Q (pc + 3) lv (.int (iI r) :: st) (W1 u ++ wr)) : V p l e R s m args below meth c D A nL cells slots Q pc lv st0 ws := by
  have hc0 := hc
  obtain ⟨hx, hb, hml, hown, hts, hK, hA, hlk, hE⟩ := hc
  intro H locs ls hl hP hD hS
  subst hst
  have hFc := fz_free hD hS hA hp
  refine va_calli (vx_runSW (As := As) (rest := st) ⟨hx, hb, hml, hown, hts⟩ (hM H.size) (vx_cwSW As.length hts hg hwy hmr.1 hmr.2 hdy hRm) ⟨PcG.blind, PcG.at hc0 hG hP hD hS hp As⟩ rfl rfl hl.1 rfl (lv_room hroom) hd hfit) hS (fun q _ h => hFc q h) hFc (fun r u t H1 locs1 ht hvm hw hB1 hz1 hk1 hS1 => ?_)
  obtain ⟨r', rfl, hpo⟩ := hw
  obtain ⟨hP1, hD1⟩ := hB1
  rw [ht] at hP1
  obtain ⟨hP2, hD2⟩ := fz_join hP hD hp hk1 hFc hP1 hD1
  exact k r' u hpo H1 locs1 ls hl hP2 hD2 hS1
end VLW
theorem mdl_thrown {l : Launch} {D : va_G} {t : Nat → ClassId} {hM : Nat} {a : Nat → Nat} {u : Nat → Nat → Int} : MI l D t yX5_thrown wsX5_thrown rm_X5_thrown [.ref hM] (LM t hM a u) (fun _ : Unit => LM t hM a u) (fun r _ => r = u 2 0) 0 0 :=
  (met_X5_thrown l D t hM (a 0) (a 1) (a 2) (a 3) (a 4) (a 5) (a 6) (a 7) (a 8) (a 9) (a 10) (a 11) (u 0 0) (u 1 0) (u 2 0) (u 3 0) (u 4 0) (u 5 0) (u 6 0) (u 7 0) (u 8 0) (u 9) (u 10) (u 11) (u 12) (u 13) (u 14) (u 15) (u 16) (u 17) (u 18) (u 19) (u 20) (fun r => r = u 2 0) rfl).conv (fun r q h => ⟨(), rfl, h⟩)
