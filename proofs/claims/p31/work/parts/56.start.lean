/-! THE CLAIM OUT OF ONE WALK OF THE LAW'S BODY. Your part is whole_start (and what it stands on); all else here is the same for every law, but numbers. -/
def R_law : String := "BackgroundRebuildLaw"
def lw_P (b : Addr) (xs : List Int32) (args : Array Value) (s : State) : Prop := args = #[.ref b] ∧ s.IntsAt b xs ∧ xs.length ≤ 260 ∧ (Jvm.Cond.and given_1 narrow_1).before args s = true
def lw_Q (_ : Array Value) (s : State) (o : Outcome) (t : State) : Prop := o = .returned (some (.int 1)) ∧ Framed s o t [] 600130 7301080
def lw_Z (below : List Frame) (a : Array Value) (s : State) : State → Prop := fun t => ∃ o, t.status = .running ∧ Ended t below o ∧ lw_Q a s o t
/-- the law's own end, with 1 on the stack, nothing written that was there before, its room as the claim has it -/
theorem lw_ret {p : Program} {l : Launch} {e : Env} {s : State} {m : MethodId} {below : List Frame} {meth : Method} {c : Code} {b : Nat} (hx : p.tables.exec = Jvm.exec) (hb : c.code = code) (hr : meth.sig.returnType = ret) (hlocks : meth.locks = false) {pc : Nat} {H : Heap} {ls : Array Slot} (hdg : decode code pc = .ok (.ireturn, 1)) : W p l e room_1 s m #[Value.ref b] below meth c H [] 600130 7301080 (lw_Z below #[Value.ref b] s) (F0 m pc ls [.int 1]) := by
  intro T hT X
  obtain ⟨fs, hret, hrun, hended, hW, hframe⟩ := X.leave (v := some (.int 1)) (hlocks := hlocks) (fun h => by rw [hr] at h; cases h)
  have hmeth' : T.vm.method? m = some meth := X.method'
  refine ⟨T.setFrames fs, ?_, .returned (some (.int 1)), hrun, hended, rfl, ⟨_, rfl⟩, hW, hframe⟩
  jvm_step X.here [X.here.top, hx, hb, hdg, hmeth', hr, ret, narrow_b1]
  (try refine ⟨rfl, ?_⟩); (try refine ⟨rfl, ?_⟩)
  first | (intro acts; rw [hret _ acts rfl rfl rfl]) | rw [hret _ _ rfl rfl rfl]
  exact Steps.refl _
/-- what holds at the law's entry: the machine, the code, the tables' words (any of lw_tbl by 'hts w (by decide +kernel)'), the script of L ints xs at the cell b, what the Statement gives of the start (any of its parts by flat_of_before) -/
def lw_At (p : Program) (s : State) (m : MethodId) (meth : Method) (c : Code) (b L : Nat) (xs : Nat → Int32) : Prop :=
  p.tables.exec = Jvm.exec ∧ c.code = code ∧ meth.sig.returnType = ret ∧ c.maxLocals = 13 ∧ s.vm.findClass R_law = some m.cls ∧ (∀ w ∈ lw_tbl, w.before #[Value.ref b] s = true) ∧ va_X b L xs s s.heap ∧ b < s.heap.size ∧ meth.locks = false ∧ (Jvm.Cond.and given_1 narrow_1).before #[Value.ref b] s = true
theorem wi_X4 : ∀ w ∈ u_ws RX4 TX4 9, w ∈ wsL_law := by decide +kernel
theorem m_law_1 : Cond.classLink RL 10 RX4 ∈ wsL_law ∧ Cond.instantiable RX4 9 ∈ wsL_law ∧ Cond.initialized RX4 ∈ wsL_law ∧ Cond.methodLink RL 129 yX4_init ∈ wsL_law ∧ Cond.instanceMethod yX4_init ∈ wsL_law := by decide +kernel
section LOOP
variable {p : Program} {l : Launch} {e : Env} {s : State} {m : MethodId} {below : List Frame} {meth : Method} {c : Code} {D : va_G} {t : Nat → ClassId} {b : Nat}
theorem law_exit (hc : Cx p room_1 s m #[Value.ref b] meth c D t (lwA s) 13 cL_law wsL_law RL) (hr : meth.sig.returnType = ret) {cells slots : Nat} {lv : List (Nat × Value)} {ws : va_W} (h1 : cells ≤ 600130) (h2 : slots ≤ 7301080) : V p l e room_1 s m #[Value.ref b] below meth c D (lwA s) 13 cells slots (lw_Z below #[Value.ref b] s) 406 lv [] ws := by
  obtain ⟨hx, hb, hml, hown, hts, hK, hA, hlk, hE⟩ := hc
  intro H locs ls hl hP hD hS
  refine lv_iconst (v := 1) hx hb dL_law_406 rfl ?_
  refine lv_goto (tgt := 411) hx hb dL_law_407 (by decide) ?_
  refine W.widen (k := 600130) (n := 7301080) h1 h2 ?_
  refine va_forget hS.2.2 ?_
  exact lw_ret hx hb hr hlk dL_law_411
set_option maxHeartbeats 8000000 in
theorem law_fin (hc : Cx p room_1 s m #[Value.ref b] meth c D t (lwA s) 13 cL_law wsL_law RL) (hG : Gx s) (hl0 : l.stackTraces = false) (hr : meth.sig.returnType = ret) {hB : Nat} {n : Nat} {σ : aW} {w : va_W} (hZ : Zi n σ) (hCW : CW t hB w σ) {cells slots : Nat} (h1 : cells ≤ 200000) (h2 : slots ≤ 2000000) : V p l e room_1 s m #[Value.ref b] below meth c D (lwA s) 13 cells slots (lw_Z below #[Value.ref b] s) 371 [(0, .ref b), (1, .ref hB), (2, .int (iI 1))] [] w := by
  obtain ⟨hI, hJ, hlen, hsv, htx, hsn⟩ := hZ
  have hIg : ivE (sB σ A0) := ivE_goBack hI (s := 1) (by decide) hsn
  have hsl : (ab_save σ.2.1 σ.1).getLast? = some σ.1 := save_last
  have hIu : ivE (σ.1, (ab_save σ.2.1 σ.1).dropLast, σ.2.2) := ivE_undo hIg hsl
  have hln := save_len (A := σ.1) hsv
  have hl1 : 1 ≤ (ab_save σ.2.1 σ.1).length := by omega
  refine V_iload_n hc dL_law_371 2 rfl ?_
  refine V_if_eq (tgt := 410) (X := False) (Y := True) hc dL_law_372 (by decide) ⟨by decide, fun h => absurd h (by decide), fun _ => trivial⟩ (fun h => h.elim) (fun _ => ?_)
  refine V_aload_n hc dL_law_375 1 rfl ?_
  refine V_iconst hc dL_law_376 ?_
  refine V_fd (As := [.int (iI 1)]) hc (fc_goBack hl0 hCW hI (by decide)) (fun j h9 => by rcases h9.2 with q | q; exact q.1 (by decide); exact absurd (show some A0 = none from hsn.symm.trans q.2.1) (by simp)) 0 (sB σ A0) (fun r σ2 h9 => by obtain ⟨-, B9, g1, g2, g3⟩ := h9; cases (show some A0 = some B9 from hsn.symm.trans g1); exact ⟨g2, g3⟩) rfl gL_law_X4_goBack rfl ⟨rfl, rfl⟩ ok_X4_goBack ⟨Nat.le_of_ble_eq_true rfl, Nat.le_of_ble_eq_true rfl⟩ (Nat.le_of_ble_eq_true rfl) dL_law_377 ⟨Nat.le_trans (m := 600130) (by omega) (Nat.le_of_ble_eq_true rfl), Nat.le_trans (m := 7301080) (by omega) (Nat.le_of_ble_eq_true rfl)⟩ (fun w1 hW1 => ?_)
  refine V_if_ne (tgt := 410) (X := False) (Y := True) hc dL_law_380 (by decide) ⟨by decide, fun h => absurd h (by decide), fun _ => trivial⟩ (fun h => h.elim) (fun _ => ?_)
  refine V_aload_n hc dL_law_383 1 rfl ?_
  refine V_iconst hc dL_law_384 ?_
  refine V_iconst hc dL_law_385 ?_
  refine V_fd (As := [.int (iI 0), .int (iI 0)]) hc (fc_tree hl0 hW1 hIg (by decide) (by decide)) (fun j h9 => h9.2.1 ⟨by decide, by decide⟩) 0 (sB σ A0) (fun r σ2 h9 => ⟨(h9.2.1.trans (if_pos rfl)).trans (tr_0.trans rfl), h9.2.2⟩) rfl gL_law_X4_tree rfl ⟨rfl, rfl⟩ ok_X4_tree ⟨Nat.le_of_ble_eq_true rfl, Nat.le_of_ble_eq_true rfl⟩ (Nat.le_of_ble_eq_true rfl) dL_law_386 ⟨Nat.le_trans (m := 600130) (by omega) (Nat.le_of_ble_eq_true rfl), Nat.le_trans (m := 7301080) (by omega) (Nat.le_of_ble_eq_true rfl)⟩ (fun w2 hW2 => ?_)
  refine V_if_ne (tgt := 410) (X := False) (Y := True) hc dL_law_389 (by decide) ⟨by decide, fun h => absurd h (by decide), fun _ => trivial⟩ (fun h => h.elim) (fun _ => ?_)
  refine V_aload_n hc dL_law_392 1 rfl ?_
  refine V_fd (As := []) hc (fc_undo hl0 hW2 hIg ) (fun j h9 => by have q : ab_save σ.2.1 σ.1 = [] := h9.2.1; rw [q] at hl1; exact absurd hl1 (by decide)) (((ab_save σ.2.1 σ.1).length : Int) - 1) (σ.1, (ab_save σ.2.1 σ.1).dropLast, σ.2.2) (fun r σ2 h9 => by obtain ⟨B9, g1, g2, g3⟩ := h9; cases (show some σ.1 = some B9 from hsl.symm.trans g1); exact ⟨g2, g3⟩) rfl gL_law_X4_undo rfl ⟨rfl, rfl⟩ ok_X4_undo ⟨Nat.le_of_ble_eq_true rfl, Nat.le_of_ble_eq_true rfl⟩ (Nat.le_of_ble_eq_true rfl) dL_law_393 ⟨Nat.le_trans (m := 600130) (by omega) (Nat.le_of_ble_eq_true rfl), Nat.le_trans (m := 7301080) (by omega) (Nat.le_of_ble_eq_true rfl)⟩ (fun w3 hW3 => ?_)
  refine V_if_lt (tgt := 410) (X := False) (Y := True) hc dL_law_396 (by decide) ⟨by omega, fun h => absurd h (by omega), fun _ => trivial⟩ (fun h => h.elim) (fun _ => ?_)
  refine V_aload_n hc dL_law_399 1 rfl ?_
  refine V_lz (As := [.ref hB]) hc hG (lm_isSorted hl0 hW3 hIu) 1 (σ.1, (ab_save σ.2.1 σ.1).dropLast, σ.2.2) (fun r σ2 h9 => h9) rfl gL_law_L_isSorted rfl ⟨rfl, rfl⟩ ok_L_isSorted ⟨Nat.le_of_ble_eq_true rfl, Nat.le_of_ble_eq_true rfl⟩ (Nat.le_of_ble_eq_true rfl) dL_law_400 ⟨Nat.le_trans (m := 600130) (by omega) (Nat.le_of_ble_eq_true rfl), Nat.le_trans (m := 7301080) (by omega) (Nat.le_of_ble_eq_true rfl)⟩ (fun w4 hW4 => ?_)
  refine V_if_eq (tgt := 410) (X := False) (Y := True) hc dL_law_403 (by decide) ⟨by decide, fun h => absurd h (by decide), fun _ => trivial⟩ (fun h => h.elim) (fun _ => ?_)
  exact law_exit hc hr (by omega) (by omega)
set_option maxHeartbeats 16000000 in
theorem law_loop (hc : Cx p room_1 s m #[Value.ref b] meth c D t (lwA s) 13 cL_law wsL_law RL) (hG : Gx s) (hl0 : l.stackTraces = false) (hr : meth.sig.returnType = ret) {L : Nat} {xs : Nat → Int32} (hX : va_X b L xs s s.heap) (hbl : b < s.heap.size) (hbA : ¬ lwA s b) (hL : L ≤ 260) {hB : Nat} : ∀ (n k : Nat) (σ : aW) (w : va_W), k + n = 50 → Zi k σ → CW t hB w σ → V p l e room_1 s m #[Value.ref b] below meth c D (lwA s) 13 (2000 + 3300 * k) (30000 + 19800 * k) (lw_Z below #[Value.ref b] s) 129 [(0, .ref b), (1, .ref hB), (2, .int (iI 1)), (3, .int (iI (k : Int)))] [] w := by
  intro n
  induction n with
  | zero =>
    intro k σ w hk hZ hCW
    obtain rfl : 50 = k := by omega
    refine V_iload_n hc dL_law_129 3 rfl ?_
    refine V_bipush hc dL_law_130 (by decide) ?_
    refine V_icmp_ge (tgt := 371) (X := True) (Y := False) hc dL_law_132 (by decide) ⟨by decide, by decide, fun _ => trivial, fun h => h (by decide)⟩ (fun _ => ?_) (fun h => h.elim)
    refine V_lv [0, 1, 2] [(0, .ref b), (1, .ref hB), (2, .int (iI 1))] rfl ?_
    exact law_fin hc hG hl0 hr hZ hCW (by omega) (by omega)
  | succ n ih =>
    intro k σ w hk hZ hCW
    have hZ0 := hZ
    obtain ⟨hI, hJ, hlen, hsv, htx, hsn⟩ := hZ
    have NX : ∀ (σ9 : aW) (w9 : va_W), Zi (k + 1) σ9 → CW t hB w9 σ9 → V p l e room_1 s m #[Value.ref b] below meth c D (lwA s) 13 (2000 + 3300 * k + 3290) (30000 + 19800 * k + 19740) (lw_Z below #[Value.ref b] s) 365 [(0, .ref b), (1, .ref hB), (2, .int (iI 1)), (3, .int (iI (k : Int)))] [] w9 := by
      intro σ9 w9 hZ9 hW9
      refine V_iinc hc dL_law_365 3 rfl [(3, .int (iI ((k : Int) + 1))), (0, .ref b), (1, .ref hB), (2, .int (iI 1))] (Nat.le_of_ble_eq_true rfl) rfl ?_
      refine V_goto (tgt := 129) hc dL_law_368 (by decide) ?_
      refine V_lv [1, 2, 3, 0] [(0, .ref b), (1, .ref hB), (2, .int (iI 1)), (3, .int (iI ((k + 1 : Nat) : Int)))] rfl ?_
      refine V_widen (k1 := 2000 + 3300 * (k + 1)) (n1 := 30000 + 19800 * (k + 1)) (by omega) (by omega) ?_
      exact ih (k + 1) σ9 w9 (by omega) hZ9 hW9
    have M231 : ∀ (x r8 : Int) (σ9 : aW) (w9 : va_W), (0 ≤ x ∧ x ≤ 2147483647) → ivE σ9 → σ9.2.2.2 = [] → CW t hB w9 σ9 → (∀ w8, CW t hB w8 σ9 → V p l e room_1 s m #[Value.ref b] below meth c D (lwA s) 13 (2000 + 3300 * k + 2994) (30000 + 19800 * k + 17964) (lw_Z below #[Value.ref b] s) 258 [(0, .ref b), (1, .ref hB), (3, .int (iI (k : Int))), (4, .int (iI x)), (5, .long (SN σ.1)), (7, .int (iI ((σ.2.1.length : Nat) : Int))), (8, .int (iI r8))] [] w8) → V p l e room_1 s m #[Value.ref b] below meth c D (lwA s) 13 (2000 + 3300 * k + 204) (30000 + 19800 * k + 1224) (lw_Z below #[Value.ref b] s) 231 [(0, .ref b), (1, .ref hB), (3, .int (iI (k : Int))), (4, .int (iI x)), (5, .long (SN σ.1)), (7, .int (iI ((σ.2.1.length : Nat) : Int))), (8, .int (iI r8))] [] w9 := by
      intro x r8 σ9 w9 hx hI9 ht9 hW9 hK9
      by_cases h6 : (k : Int) % 6 = 5
      · refine V_aload_n hc dL_law_231 1 rfl ?_
        refine V_lz (As := [.ref hB]) hc hG (lm_isSorted hl0 hW9 hI9) 1 σ9 (fun r σ2 h9 => h9) rfl gL_law_L_isSorted rfl ⟨rfl, rfl⟩ ok_L_isSorted ⟨Nat.le_of_ble_eq_true rfl, Nat.le_of_ble_eq_true rfl⟩ (Nat.le_of_ble_eq_true rfl) dL_law_232 ⟨Nat.le_trans (m := 600130) (by omega) (Nat.le_of_ble_eq_true rfl), Nat.le_trans (m := 7301080) (by omega) (Nat.le_of_ble_eq_true rfl)⟩ (fun w1 hW1 => ?_)
        refine V_if_eq (tgt := 262) (X := False) (Y := True) hc dL_law_235 (by decide) ⟨by decide, fun h => absurd h (by decide), fun _ => trivial⟩ (fun h => h.elim) (fun _ => ?_)
        refine V_iload_n hc dL_law_238 2 rfl ?_
        refine V_bipush hc dL_law_239 (by decide) ?_
        refine V_irem (X := True) hc dL_law_241 ⟨by omega, by omega, trivial⟩ (fun _ => ?_)
        refine V_iconst hc dL_law_242 ?_
        refine V_neF (tgt := 258) hc dL_law_243 (by decide) (by omega) ?_
        refine V_aload_n hc dL_law_246 1 rfl ?_
        refine V_iload hc dL_law_247 3 rfl ?_
        refine V_bipush hc dL_law_249 (by decide) ?_
        refine V_idiv (X := True) hc dL_law_251 ⟨by omega, by omega, trivial⟩ (fun _ => ?_)
        refine V_lz (As := [.ref hB, .int (iI (x / 6))]) hc hG (lm_refuses hl0 hW1 hI9 ht9 (x := x / 6) (by omega)) 1 σ9 (fun r σ2 h9 => h9) rfl gL_law_L_refuses rfl ⟨rfl, rfl⟩ ok_L_refuses ⟨Nat.le_of_ble_eq_true rfl, Nat.le_of_ble_eq_true rfl⟩ (Nat.le_of_ble_eq_true rfl) dL_law_252 ⟨Nat.le_trans (m := 600130) (by omega) (Nat.le_of_ble_eq_true rfl), Nat.le_trans (m := 7301080) (by omega) (Nat.le_of_ble_eq_true rfl)⟩ (fun w2 hW2 => ?_)
        refine V_if_eq (tgt := 262) (X := False) (Y := True) hc dL_law_255 (by decide) ⟨by decide, fun h => absurd h (by decide), fun _ => trivial⟩ (fun h => h.elim) (fun _ => ?_)
        refine V_lv [0, 1, 2, 3, 4, 5, 6] [(0, .ref b), (1, .ref hB), (3, .int (iI (k : Int))), (4, .int (iI x)), (5, .long (SN σ.1)), (7, .int (iI ((σ.2.1.length : Nat) : Int))), (8, .int (iI r8))] rfl ?_
        refine V_widen (k1 := 2000 + 3300 * k + 2994) (n1 := 30000 + 19800 * k + 17964) (by omega) (by omega) ?_
        exact hK9 w2 hW2
      · refine V_aload_n hc dL_law_231 1 rfl ?_
        refine V_lz (As := [.ref hB]) hc hG (lm_isSorted hl0 hW9 hI9) 1 σ9 (fun r σ2 h9 => h9) rfl gL_law_L_isSorted rfl ⟨rfl, rfl⟩ ok_L_isSorted ⟨Nat.le_of_ble_eq_true rfl, Nat.le_of_ble_eq_true rfl⟩ (Nat.le_of_ble_eq_true rfl) dL_law_232 ⟨Nat.le_trans (m := 600130) (by omega) (Nat.le_of_ble_eq_true rfl), Nat.le_trans (m := 7301080) (by omega) (Nat.le_of_ble_eq_true rfl)⟩ (fun w1 hW1 => ?_)
        refine V_if_eq (tgt := 262) (X := False) (Y := True) hc dL_law_235 (by decide) ⟨by decide, fun h => absurd h (by decide), fun _ => trivial⟩ (fun h => h.elim) (fun _ => ?_)
        refine V_iload_n hc dL_law_238 2 rfl ?_
        refine V_bipush hc dL_law_239 (by decide) ?_
        refine V_irem (X := True) hc dL_law_241 ⟨by omega, by omega, trivial⟩ (fun _ => ?_)
        refine V_iconst hc dL_law_242 ?_
        refine V_icmp_ne (tgt := 258) (X := True) (Y := False) hc dL_law_243 (by decide) ⟨by omega, by decide, fun _ => trivial, fun h => h (by omega)⟩ (fun _ => ?_) (fun h => h.elim)
        refine V_lv [0, 1, 2, 3, 4, 5, 6] [(0, .ref b), (1, .ref hB), (3, .int (iI (k : Int))), (4, .int (iI x)), (5, .long (SN σ.1)), (7, .int (iI ((σ.2.1.length : Nat) : Int))), (8, .int (iI r8))] rfl ?_
        refine V_widen (k1 := 2000 + 3300 * k + 2994) (n1 := 30000 + 19800 * k + 17964) (by omega) (by omega) ?_
        exact hK9 w1 hW1
    have A258 : ∀ (x r8 : Int) (w9 : va_W), (-99 < r8 ∧ r8 ≤ -10) → CW t hB w9 σ → V p l e room_1 s m #[Value.ref b] below meth c D (lwA s) 13 (2000 + 3300 * k + 2994) (30000 + 19800 * k + 17964) (lw_Z below #[Value.ref b] s) 258 [(0, .ref b), (1, .ref hB), (3, .int (iI (k : Int))), (4, .int (iI x)), (5, .long (SN σ.1)), (7, .int (iI ((σ.2.1.length : Nat) : Int))), (8, .int (iI r8))] [] w9 := by
      intro x r8 w9 hr8 hW9
      refine V_iconst hc dL_law_258 ?_
      refine V_goto (tgt := 263) hc dL_law_259 (by decide) ?_
      refine V_istore_n hc dL_law_263 [(2, .int (iI 1)), (0, .ref b), (1, .ref hB), (3, .int (iI (k : Int))), (4, .int (iI x)), (5, .long (SN σ.1)), (7, .int (iI ((σ.2.1.length : Nat) : Int))), (8, .int (iI r8))] (Nat.le_of_ble_eq_true rfl) rfl ?_
      refine V_iload_n hc dL_law_264 0 rfl ?_
      refine V_if_eq (tgt := 365) (X := False) (Y := True) hc dL_law_265 (by decide) ⟨by decide, fun h => absurd h (by decide), fun _ => trivial⟩ (fun h => h.elim) (fun _ => ?_)
      refine V_iload hc dL_law_268 7 rfl ?_
      refine V_bipush hc dL_law_270 (by decide) ?_
      refine V_icmp_le (tgt := 365) (X := True) (Y := False) hc dL_law_272 (by decide) ⟨by omega, by decide, fun _ => trivial, fun h => h (by omega)⟩ (fun _ => ?_) (fun h => h.elim)
      refine V_lv [1, 2, 0, 3] [(0, .ref b), (1, .ref hB), (2, .int (iI 1)), (3, .int (iI (k : Int)))] rfl ?_
      refine V_widen (k1 := 2000 + 3300 * k + 3290) (n1 := 30000 + 19800 * k + 19740) (by omega) (by omega) ?_
      exact NX σ w9 ⟨hI, hJ, by omega, hsv, htx, hsn⟩ hW9
    have B258 : ∀ (x r8 : Int) (B : aS) (w9 : va_W), (0 ≤ x ∧ x ≤ 2147483647) → (-10 < r8 ∧ inR r8) → jr_I B → (as_T B).1.length ≤ k + 1 → ivE (sB σ B) → CW t hB w9 (sB σ B) → V p l e room_1 s m #[Value.ref b] below meth c D (lwA s) 13 (2000 + 3300 * k + 2994) (30000 + 19800 * k + 17964) (lw_Z below #[Value.ref b] s) 258 [(0, .ref b), (1, .ref hB), (3, .int (iI (k : Int))), (4, .int (iI x)), (5, .long (SN σ.1)), (7, .int (iI ((σ.2.1.length : Nat) : Int))), (8, .int (iI r8))] [] w9 := by
      intro x r8 B w9 hx hr8 hJB hlB hIB hW9
      have hln := save_len (A := σ.1) hsv
      have hsl : (ab_save σ.2.1 σ.1).getLast? = some σ.1 := save_last
      have hl1 : 1 ≤ (ab_save σ.2.1 σ.1).length := by omega
      by_cases h17 : x / 17 % 3 = 0
      · have hs0 : (ab_snap σ.2.2.1 0 B) 0 = some B := rfl
        have hs1 : (ab_snap σ.2.2.1 0 B) 1 = some A0 := hsn
        have hI2 : ivE (B, (ab_save σ.2.1 σ.1), (ab_snap σ.2.2.1 0 B), σ.2.2.2) := ivE_keep hIB (s := 0) (by decide)
        have hI3 : ivE (σ.1, (ab_save σ.2.1 σ.1).dropLast, (ab_snap σ.2.2.1 0 B), σ.2.2.2) := ivE_undo hI2 hsl
        have hI4 : ivE (B, ab_save (ab_save σ.2.1 σ.1).dropLast σ.1, (ab_snap σ.2.2.1 0 B), σ.2.2.2) := ivE_goBack hI3 (s := 0) (by decide) hs0
        by_cases h6 : σ.2.1.length < 6
        · have hsl6 := hln.1 h6
          refine V_iconst hc dL_law_258 ?_
          refine V_goto (tgt := 263) hc dL_law_259 (by decide) ?_
          refine V_istore_n hc dL_law_263 [(2, .int (iI 1)), (0, .ref b), (1, .ref hB), (3, .int (iI (k : Int))), (4, .int (iI x)), (5, .long (SN σ.1)), (7, .int (iI ((σ.2.1.length : Nat) : Int))), (8, .int (iI r8))] (Nat.le_of_ble_eq_true rfl) rfl ?_
          refine V_iload_n hc dL_law_264 0 rfl ?_
          refine V_if_eq (tgt := 365) (X := False) (Y := True) hc dL_law_265 (by decide) ⟨by decide, fun h => absurd h (by decide), fun _ => trivial⟩ (fun h => h.elim) (fun _ => ?_)
          refine V_iload hc dL_law_268 7 rfl ?_
          refine V_bipush hc dL_law_270 (by decide) ?_
          refine V_icmp_le (tgt := 365) (X := False) (Y := True) hc dL_law_272 (by decide) ⟨by omega, by decide, fun h => absurd h (by omega), fun _ => trivial⟩ (fun h => h.elim) (fun _ => ?_)
          refine V_iload hc dL_law_275 4 rfl ?_
          refine V_bipush hc dL_law_277 (by decide) ?_
          refine V_idiv (X := True) hc dL_law_279 ⟨by omega, by omega, trivial⟩ (fun _ => ?_)
          refine V_iconst hc dL_law_280 ?_
          refine V_irem (X := True) hc dL_law_281 ⟨by omega, by omega, trivial⟩ (fun _ => ?_)
          refine V_if_ne (tgt := 365) (X := False) (Y := True) hc dL_law_282 (by decide) ⟨by omega, fun h => absurd h (by omega), fun _ => trivial⟩ (fun h => h.elim) (fun _ => ?_)
          refine V_aload_n hc dL_law_285 2 rfl ?_
          refine V_ll (As := [.ref hB]) hc hG (lm_seen hl0 hW9 hIB) rfl gL_law_L_seen rfl ⟨rfl, rfl⟩ ok_L_seen ⟨Nat.le_of_ble_eq_true rfl, Nat.le_of_ble_eq_true rfl⟩ (Nat.le_of_ble_eq_true rfl) dL_law_286 ⟨Nat.le_trans (m := 600130) (by omega) (Nat.le_of_ble_eq_true rfl), Nat.le_trans (m := 7301080) (by omega) (Nat.le_of_ble_eq_true rfl)⟩ (fun w1 hW1 => ?_)
          refine V_lstore hc dL_law_289 [(10, .long (SN B)), (2, .int (iI 1)), (0, .ref b), (1, .ref hB), (3, .int (iI (k : Int))), (4, .int (iI x)), (5, .long (SN σ.1)), (7, .int (iI ((σ.2.1.length : Nat) : Int))), (8, .int (iI r8))] (Nat.le_of_ble_eq_true rfl) rfl ?_
          refine V_aload_n hc dL_law_291 3 rfl ?_
          refine V_iconst hc dL_law_292 ?_
          refine V_iconst hc dL_law_293 ?_
          refine V_fd (As := [.int (iI 0), .int (iI 1)]) hc (fc_tree hl0 hW1 hIB (by decide) (by decide)) (fun j h9 => h9.2.1 ⟨by decide, by decide⟩) (ab_np (as_T B).1 (as_T B).2) (sB σ B) (fun r σ2 h9 => ⟨(h9.2.1.trans (if_pos rfl)).trans (tr_1), h9.2.2⟩) rfl gL_law_X4_tree rfl ⟨rfl, rfl⟩ ok_X4_tree ⟨Nat.le_of_ble_eq_true rfl, Nat.le_of_ble_eq_true rfl⟩ (Nat.le_of_ble_eq_true rfl) dL_law_294 ⟨Nat.le_trans (m := 600130) (by omega) (Nat.le_of_ble_eq_true rfl), Nat.le_trans (m := 7301080) (by omega) (Nat.le_of_ble_eq_true rfl)⟩ (fun w2 hW2 => ?_)
          refine V_istore hc dL_law_297 [(12, .int (iI (ab_np (as_T B).1 (as_T B).2))), (10, .long (SN B)), (2, .int (iI 1)), (0, .ref b), (1, .ref hB), (3, .int (iI (k : Int))), (4, .int (iI x)), (5, .long (SN σ.1)), (7, .int (iI ((σ.2.1.length : Nat) : Int))), (8, .int (iI r8))] (Nat.le_of_ble_eq_true rfl) rfl ?_
          refine V_aload_n hc dL_law_299 4 rfl ?_
          refine V_iconst hc dL_law_300 ?_
          refine V_fd (As := [.int (iI 0)]) hc (fc_keep hl0 hW2 hIB (by decide)) (fun j h9 => h9.2.1 (by decide)) (ab_np (as_T B).1 (as_T B).2) (B, (ab_save σ.2.1 σ.1), (ab_snap σ.2.2.1 0 B), σ.2.2.2) (fun r σ2 h9 => ⟨h9.2.1, h9.2.2⟩) rfl gL_law_X4_keep rfl ⟨rfl, rfl⟩ ok_X4_keep ⟨Nat.le_of_ble_eq_true rfl, Nat.le_of_ble_eq_true rfl⟩ (Nat.le_of_ble_eq_true rfl) dL_law_301 ⟨Nat.le_trans (m := 600130) (by omega) (Nat.le_of_ble_eq_true rfl), Nat.le_trans (m := 7301080) (by omega) (Nat.le_of_ble_eq_true rfl)⟩ (fun w3 hW3 => ?_)
          refine V_iload hc dL_law_304 0 rfl ?_
          refine V_neF (tgt := 363) hc dL_law_306 (by decide) rfl ?_
          refine V_aload_n hc dL_law_309 4 rfl ?_
          refine V_fd (As := []) hc (fc_undo hl0 hW3 hI2 ) (fun j h9 => by have q : ab_save σ.2.1 σ.1 = [] := h9.2.1; rw [q] at hl1; exact absurd hl1 (by decide)) (((ab_save σ.2.1 σ.1).length : Int) - 1) (σ.1, (ab_save σ.2.1 σ.1).dropLast, (ab_snap σ.2.2.1 0 B), σ.2.2.2) (fun r σ2 h9 => by obtain ⟨B9, g1, g2, g3⟩ := h9; cases (show some σ.1 = some B9 from hsl.symm.trans g1); exact ⟨g2, g3⟩) rfl gL_law_X4_undo rfl ⟨rfl, rfl⟩ ok_X4_undo ⟨Nat.le_of_ble_eq_true rfl, Nat.le_of_ble_eq_true rfl⟩ (Nat.le_of_ble_eq_true rfl) dL_law_310 ⟨Nat.le_trans (m := 600130) (by omega) (Nat.le_of_ble_eq_true rfl), Nat.le_trans (m := 7301080) (by omega) (Nat.le_of_ble_eq_true rfl)⟩ (fun w4 hW4 => ?_)
          refine V_iload hc dL_law_313 8 rfl ?_
          refine V_bipush hc dL_law_315 (by decide) ?_
          refine V_icmp_ge (tgt := 325) (X := False) (Y := True) hc dL_law_317 (by decide) ⟨by omega, by decide, fun h => absurd h (by omega), fun _ => trivial⟩ (fun h => h.elim) (fun _ => ?_)
          refine V_iload hc dL_law_320 8 rfl ?_
          refine V_goto (tgt := 326) hc dL_law_322 (by decide) ?_
          refine V_neF (tgt := 363) hc dL_law_326 (by decide) (by omega) ?_
          refine V_aload_n hc dL_law_329 4 rfl ?_
          refine V_ll (As := [.ref hB]) hc hG (lm_seen hl0 hW4 hI3) rfl gL_law_L_seen rfl ⟨rfl, rfl⟩ ok_L_seen ⟨Nat.le_of_ble_eq_true rfl, Nat.le_of_ble_eq_true rfl⟩ (Nat.le_of_ble_eq_true rfl) dL_law_330 ⟨Nat.le_trans (m := 600130) (by omega) (Nat.le_of_ble_eq_true rfl), Nat.le_trans (m := 7301080) (by omega) (Nat.le_of_ble_eq_true rfl)⟩ (fun w5 hW5 => ?_)
          refine V_lload hc dL_law_333 7 rfl ?_
          refine V_lcmpT hc dL_law_335 (rfl) ?_
          refine V_if_ne (tgt := 363) (X := False) (Y := True) hc dL_law_336 (by decide) ⟨by decide, fun h => absurd h (by decide), fun _ => trivial⟩ (fun h => h.elim) (fun _ => ?_)
          refine V_aload_n hc dL_law_339 4 rfl ?_
          refine V_iconst hc dL_law_340 ?_
          refine V_fd (As := [.int (iI 0)]) hc (fc_goBack hl0 hW5 hI3 (by decide)) (fun j h9 => by rcases h9.2 with q | q; exact q.1 (by decide); exact absurd (show some B = none from hs0.symm.trans q.2.1) (by simp)) (ab_np (as_T B).1 (as_T B).2) (B, ab_save (ab_save σ.2.1 σ.1).dropLast σ.1, (ab_snap σ.2.2.1 0 B), σ.2.2.2) (fun r σ2 h9 => by obtain ⟨-, B9, g1, g2, g3⟩ := h9; cases (show some B = some B9 from hs0.symm.trans g1); exact ⟨g2, g3⟩) rfl gL_law_X4_goBack rfl ⟨rfl, rfl⟩ ok_X4_goBack ⟨Nat.le_of_ble_eq_true rfl, Nat.le_of_ble_eq_true rfl⟩ (Nat.le_of_ble_eq_true rfl) dL_law_341 ⟨Nat.le_trans (m := 600130) (by omega) (Nat.le_of_ble_eq_true rfl), Nat.le_trans (m := 7301080) (by omega) (Nat.le_of_ble_eq_true rfl)⟩ (fun w6 hW6 => ?_)
          refine V_iload hc dL_law_344 0 rfl ?_
          refine V_neF (tgt := 363) hc dL_law_346 (by decide) rfl ?_
          refine V_aload_n hc dL_law_349 4 rfl ?_
          refine V_ll (As := [.ref hB]) hc hG (lm_seen hl0 hW6 hI4) rfl gL_law_L_seen rfl ⟨rfl, rfl⟩ ok_L_seen ⟨Nat.le_of_ble_eq_true rfl, Nat.le_of_ble_eq_true rfl⟩ (Nat.le_of_ble_eq_true rfl) dL_law_350 ⟨Nat.le_trans (m := 600130) (by omega) (Nat.le_of_ble_eq_true rfl), Nat.le_trans (m := 7301080) (by omega) (Nat.le_of_ble_eq_true rfl)⟩ (fun w7 hW7 => ?_)
          refine V_lload hc dL_law_353 1 rfl ?_
          refine V_lcmpT hc dL_law_355 (rfl) ?_
          refine V_if_ne (tgt := 363) (X := False) (Y := True) hc dL_law_356 (by decide) ⟨by decide, fun h => absurd h (by decide), fun _ => trivial⟩ (fun h => h.elim) (fun _ => ?_)
          refine V_iconst hc dL_law_359 ?_
          refine V_goto (tgt := 364) hc dL_law_360 (by decide) ?_
          refine V_istore_n hc dL_law_364 [(2, .int (iI 1)), (12, .int (iI (ab_np (as_T B).1 (as_T B).2))), (10, .long (SN B)), (0, .ref b), (1, .ref hB), (3, .int (iI (k : Int))), (4, .int (iI x)), (5, .long (SN σ.1)), (7, .int (iI ((σ.2.1.length : Nat) : Int))), (8, .int (iI r8))] (Nat.le_of_ble_eq_true rfl) rfl ?_
          refine V_lv [3, 4, 0, 5] [(0, .ref b), (1, .ref hB), (2, .int (iI 1)), (3, .int (iI (k : Int)))] rfl ?_
          refine V_widen (k1 := 2000 + 3300 * k + 3290) (n1 := 30000 + 19800 * k + 19740) (by omega) (by omega) ?_
          exact NX (B, ab_save (ab_save σ.2.1 σ.1).dropLast σ.1, (ab_snap σ.2.2.1 0 B), σ.2.2.2) _ ⟨hI4, hJB, hlB, (save_len (A := σ.1) (save_drop hsv)).2.2, htx, hs1⟩ hW7
        · have hsl6 := hln.2.1 h6
          refine V_iconst hc dL_law_258 ?_
          refine V_goto (tgt := 263) hc dL_law_259 (by decide) ?_
          refine V_istore_n hc dL_law_263 [(2, .int (iI 1)), (0, .ref b), (1, .ref hB), (3, .int (iI (k : Int))), (4, .int (iI x)), (5, .long (SN σ.1)), (7, .int (iI ((σ.2.1.length : Nat) : Int))), (8, .int (iI r8))] (Nat.le_of_ble_eq_true rfl) rfl ?_
          refine V_iload_n hc dL_law_264 0 rfl ?_
          refine V_if_eq (tgt := 365) (X := False) (Y := True) hc dL_law_265 (by decide) ⟨by decide, fun h => absurd h (by decide), fun _ => trivial⟩ (fun h => h.elim) (fun _ => ?_)
          refine V_iload hc dL_law_268 7 rfl ?_
          refine V_bipush hc dL_law_270 (by decide) ?_
          refine V_icmp_le (tgt := 365) (X := False) (Y := True) hc dL_law_272 (by decide) ⟨by omega, by decide, fun h => absurd h (by omega), fun _ => trivial⟩ (fun h => h.elim) (fun _ => ?_)
          refine V_iload hc dL_law_275 4 rfl ?_
          refine V_bipush hc dL_law_277 (by decide) ?_
          refine V_idiv (X := True) hc dL_law_279 ⟨by omega, by omega, trivial⟩ (fun _ => ?_)
          refine V_iconst hc dL_law_280 ?_
          refine V_irem (X := True) hc dL_law_281 ⟨by omega, by omega, trivial⟩ (fun _ => ?_)
          refine V_if_ne (tgt := 365) (X := False) (Y := True) hc dL_law_282 (by decide) ⟨by omega, fun h => absurd h (by omega), fun _ => trivial⟩ (fun h => h.elim) (fun _ => ?_)
          refine V_aload_n hc dL_law_285 2 rfl ?_
          refine V_ll (As := [.ref hB]) hc hG (lm_seen hl0 hW9 hIB) rfl gL_law_L_seen rfl ⟨rfl, rfl⟩ ok_L_seen ⟨Nat.le_of_ble_eq_true rfl, Nat.le_of_ble_eq_true rfl⟩ (Nat.le_of_ble_eq_true rfl) dL_law_286 ⟨Nat.le_trans (m := 600130) (by omega) (Nat.le_of_ble_eq_true rfl), Nat.le_trans (m := 7301080) (by omega) (Nat.le_of_ble_eq_true rfl)⟩ (fun w1 hW1 => ?_)
          refine V_lstore hc dL_law_289 [(10, .long (SN B)), (2, .int (iI 1)), (0, .ref b), (1, .ref hB), (3, .int (iI (k : Int))), (4, .int (iI x)), (5, .long (SN σ.1)), (7, .int (iI ((σ.2.1.length : Nat) : Int))), (8, .int (iI r8))] (Nat.le_of_ble_eq_true rfl) rfl ?_
          refine V_aload_n hc dL_law_291 3 rfl ?_
          refine V_iconst hc dL_law_292 ?_
          refine V_iconst hc dL_law_293 ?_
          refine V_fd (As := [.int (iI 0), .int (iI 1)]) hc (fc_tree hl0 hW1 hIB (by decide) (by decide)) (fun j h9 => h9.2.1 ⟨by decide, by decide⟩) (ab_np (as_T B).1 (as_T B).2) (sB σ B) (fun r σ2 h9 => ⟨(h9.2.1.trans (if_pos rfl)).trans (tr_1), h9.2.2⟩) rfl gL_law_X4_tree rfl ⟨rfl, rfl⟩ ok_X4_tree ⟨Nat.le_of_ble_eq_true rfl, Nat.le_of_ble_eq_true rfl⟩ (Nat.le_of_ble_eq_true rfl) dL_law_294 ⟨Nat.le_trans (m := 600130) (by omega) (Nat.le_of_ble_eq_true rfl), Nat.le_trans (m := 7301080) (by omega) (Nat.le_of_ble_eq_true rfl)⟩ (fun w2 hW2 => ?_)
          refine V_istore hc dL_law_297 [(12, .int (iI (ab_np (as_T B).1 (as_T B).2))), (10, .long (SN B)), (2, .int (iI 1)), (0, .ref b), (1, .ref hB), (3, .int (iI (k : Int))), (4, .int (iI x)), (5, .long (SN σ.1)), (7, .int (iI ((σ.2.1.length : Nat) : Int))), (8, .int (iI r8))] (Nat.le_of_ble_eq_true rfl) rfl ?_
          refine V_aload_n hc dL_law_299 4 rfl ?_
          refine V_iconst hc dL_law_300 ?_
          refine V_fd (As := [.int (iI 0)]) hc (fc_keep hl0 hW2 hIB (by decide)) (fun j h9 => h9.2.1 (by decide)) (ab_np (as_T B).1 (as_T B).2) (B, (ab_save σ.2.1 σ.1), (ab_snap σ.2.2.1 0 B), σ.2.2.2) (fun r σ2 h9 => ⟨h9.2.1, h9.2.2⟩) rfl gL_law_X4_keep rfl ⟨rfl, rfl⟩ ok_X4_keep ⟨Nat.le_of_ble_eq_true rfl, Nat.le_of_ble_eq_true rfl⟩ (Nat.le_of_ble_eq_true rfl) dL_law_301 ⟨Nat.le_trans (m := 600130) (by omega) (Nat.le_of_ble_eq_true rfl), Nat.le_trans (m := 7301080) (by omega) (Nat.le_of_ble_eq_true rfl)⟩ (fun w3 hW3 => ?_)
          refine V_iload hc dL_law_304 0 rfl ?_
          refine V_neF (tgt := 363) hc dL_law_306 (by decide) rfl ?_
          refine V_aload_n hc dL_law_309 4 rfl ?_
          refine V_fd (As := []) hc (fc_undo hl0 hW3 hI2 ) (fun j h9 => by have q : ab_save σ.2.1 σ.1 = [] := h9.2.1; rw [q] at hl1; exact absurd hl1 (by decide)) (((ab_save σ.2.1 σ.1).length : Int) - 1) (σ.1, (ab_save σ.2.1 σ.1).dropLast, (ab_snap σ.2.2.1 0 B), σ.2.2.2) (fun r σ2 h9 => by obtain ⟨B9, g1, g2, g3⟩ := h9; cases (show some σ.1 = some B9 from hsl.symm.trans g1); exact ⟨g2, g3⟩) rfl gL_law_X4_undo rfl ⟨rfl, rfl⟩ ok_X4_undo ⟨Nat.le_of_ble_eq_true rfl, Nat.le_of_ble_eq_true rfl⟩ (Nat.le_of_ble_eq_true rfl) dL_law_310 ⟨Nat.le_trans (m := 600130) (by omega) (Nat.le_of_ble_eq_true rfl), Nat.le_trans (m := 7301080) (by omega) (Nat.le_of_ble_eq_true rfl)⟩ (fun w4 hW4 => ?_)
          refine V_iload hc dL_law_313 8 rfl ?_
          refine V_bipush hc dL_law_315 (by decide) ?_
          refine V_icmp_ge (tgt := 325) (X := True) (Y := False) hc dL_law_317 (by decide) ⟨by omega, by decide, fun _ => trivial, fun h => h (by omega)⟩ (fun _ => ?_) (fun h => h.elim)
          refine V_iconst hc dL_law_325 ?_
          refine V_neF (tgt := 363) hc dL_law_326 (by decide) (by omega) ?_
          refine V_aload_n hc dL_law_329 4 rfl ?_
          refine V_ll (As := [.ref hB]) hc hG (lm_seen hl0 hW4 hI3) rfl gL_law_L_seen rfl ⟨rfl, rfl⟩ ok_L_seen ⟨Nat.le_of_ble_eq_true rfl, Nat.le_of_ble_eq_true rfl⟩ (Nat.le_of_ble_eq_true rfl) dL_law_330 ⟨Nat.le_trans (m := 600130) (by omega) (Nat.le_of_ble_eq_true rfl), Nat.le_trans (m := 7301080) (by omega) (Nat.le_of_ble_eq_true rfl)⟩ (fun w5 hW5 => ?_)
          refine V_lload hc dL_law_333 7 rfl ?_
          refine V_lcmpT hc dL_law_335 (rfl) ?_
          refine V_if_ne (tgt := 363) (X := False) (Y := True) hc dL_law_336 (by decide) ⟨by decide, fun h => absurd h (by decide), fun _ => trivial⟩ (fun h => h.elim) (fun _ => ?_)
          refine V_aload_n hc dL_law_339 4 rfl ?_
          refine V_iconst hc dL_law_340 ?_
          refine V_fd (As := [.int (iI 0)]) hc (fc_goBack hl0 hW5 hI3 (by decide)) (fun j h9 => by rcases h9.2 with q | q; exact q.1 (by decide); exact absurd (show some B = none from hs0.symm.trans q.2.1) (by simp)) (ab_np (as_T B).1 (as_T B).2) (B, ab_save (ab_save σ.2.1 σ.1).dropLast σ.1, (ab_snap σ.2.2.1 0 B), σ.2.2.2) (fun r σ2 h9 => by obtain ⟨-, B9, g1, g2, g3⟩ := h9; cases (show some B = some B9 from hs0.symm.trans g1); exact ⟨g2, g3⟩) rfl gL_law_X4_goBack rfl ⟨rfl, rfl⟩ ok_X4_goBack ⟨Nat.le_of_ble_eq_true rfl, Nat.le_of_ble_eq_true rfl⟩ (Nat.le_of_ble_eq_true rfl) dL_law_341 ⟨Nat.le_trans (m := 600130) (by omega) (Nat.le_of_ble_eq_true rfl), Nat.le_trans (m := 7301080) (by omega) (Nat.le_of_ble_eq_true rfl)⟩ (fun w6 hW6 => ?_)
          refine V_iload hc dL_law_344 0 rfl ?_
          refine V_neF (tgt := 363) hc dL_law_346 (by decide) rfl ?_
          refine V_aload_n hc dL_law_349 4 rfl ?_
          refine V_ll (As := [.ref hB]) hc hG (lm_seen hl0 hW6 hI4) rfl gL_law_L_seen rfl ⟨rfl, rfl⟩ ok_L_seen ⟨Nat.le_of_ble_eq_true rfl, Nat.le_of_ble_eq_true rfl⟩ (Nat.le_of_ble_eq_true rfl) dL_law_350 ⟨Nat.le_trans (m := 600130) (by omega) (Nat.le_of_ble_eq_true rfl), Nat.le_trans (m := 7301080) (by omega) (Nat.le_of_ble_eq_true rfl)⟩ (fun w7 hW7 => ?_)
          refine V_lload hc dL_law_353 1 rfl ?_
          refine V_lcmpT hc dL_law_355 (rfl) ?_
          refine V_if_ne (tgt := 363) (X := False) (Y := True) hc dL_law_356 (by decide) ⟨by decide, fun h => absurd h (by decide), fun _ => trivial⟩ (fun h => h.elim) (fun _ => ?_)
          refine V_iconst hc dL_law_359 ?_
          refine V_goto (tgt := 364) hc dL_law_360 (by decide) ?_
          refine V_istore_n hc dL_law_364 [(2, .int (iI 1)), (12, .int (iI (ab_np (as_T B).1 (as_T B).2))), (10, .long (SN B)), (0, .ref b), (1, .ref hB), (3, .int (iI (k : Int))), (4, .int (iI x)), (5, .long (SN σ.1)), (7, .int (iI ((σ.2.1.length : Nat) : Int))), (8, .int (iI r8))] (Nat.le_of_ble_eq_true rfl) rfl ?_
          refine V_lv [3, 4, 0, 5] [(0, .ref b), (1, .ref hB), (2, .int (iI 1)), (3, .int (iI (k : Int)))] rfl ?_
          refine V_widen (k1 := 2000 + 3300 * k + 3290) (n1 := 30000 + 19800 * k + 19740) (by omega) (by omega) ?_
          exact NX (B, ab_save (ab_save σ.2.1 σ.1).dropLast σ.1, (ab_snap σ.2.2.1 0 B), σ.2.2.2) _ ⟨hI4, hJB, hlB, (save_len (A := σ.1) (save_drop hsv)).2.2, htx, hs1⟩ hW7
      · refine V_iconst hc dL_law_258 ?_
        refine V_goto (tgt := 263) hc dL_law_259 (by decide) ?_
        refine V_istore_n hc dL_law_263 [(2, .int (iI 1)), (0, .ref b), (1, .ref hB), (3, .int (iI (k : Int))), (4, .int (iI x)), (5, .long (SN σ.1)), (7, .int (iI ((σ.2.1.length : Nat) : Int))), (8, .int (iI r8))] (Nat.le_of_ble_eq_true rfl) rfl ?_
        refine V_iload_n hc dL_law_264 0 rfl ?_
        refine V_if_eq (tgt := 365) (X := False) (Y := True) hc dL_law_265 (by decide) ⟨by decide, fun h => absurd h (by decide), fun _ => trivial⟩ (fun h => h.elim) (fun _ => ?_)
        refine V_iload hc dL_law_268 7 rfl ?_
        refine V_bipush hc dL_law_270 (by decide) ?_
        refine V_icmp_le (tgt := 365) (X := False) (Y := True) hc dL_law_272 (by decide) ⟨by omega, by decide, fun h => absurd h (by omega), fun _ => trivial⟩ (fun h => h.elim) (fun _ => ?_)
        refine V_iload hc dL_law_275 4 rfl ?_
        refine V_bipush hc dL_law_277 (by decide) ?_
        refine V_idiv (X := True) hc dL_law_279 ⟨by omega, by omega, trivial⟩ (fun _ => ?_)
        refine V_iconst hc dL_law_280 ?_
        refine V_irem (X := True) hc dL_law_281 ⟨by omega, by omega, trivial⟩ (fun _ => ?_)
        refine V_if_ne (tgt := 365) (X := True) (Y := False) hc dL_law_282 (by decide) ⟨by omega, fun _ => trivial, fun h => h (by omega)⟩ (fun _ => ?_) (fun h => h.elim)
        refine V_lv [1, 2, 0, 3] [(0, .ref b), (1, .ref hB), (2, .int (iI 1)), (3, .int (iI (k : Int)))] rfl ?_
        refine V_widen (k1 := 2000 + 3300 * k + 3290) (n1 := 30000 + 19800 * k + 19740) (by omega) (by omega) ?_
        exact NX (sB σ B) w9 ⟨hIB, hJB, hlB, hln.2.2, htx, hsn⟩ hW9
    refine V_iload_n hc dL_law_129 3 rfl ?_
    refine V_bipush hc dL_law_130 (by decide) ?_
    refine V_icmp_ge (tgt := 371) (X := False) (Y := True) hc dL_law_132 (by decide) ⟨by omega, by decide, fun h => absurd h (by omega), fun _ => trivial⟩ (fun h => h.elim) (fun _ => ?_)
    refine V_iload_n hc dL_law_135 2 rfl ?_
    refine V_if_eq (tgt := 371) (X := False) (Y := True) hc dL_law_136 (by decide) ⟨by decide, fun h => absurd h (by decide), fun _ => trivial⟩ (fun h => h.elim) (fun _ => ?_)
    refine V_aload_n hc dL_law_139 0 rfl ?_
    refine V_iload_n hc dL_law_140 3 rfl ?_
    refine V_cell hc hX hbl hbA hL (by omega) gL_law_L_cell ⟨Nat.le_of_ble_eq_true rfl, Nat.le_of_ble_eq_true rfl⟩ (Nat.le_of_ble_eq_true rfl) dL_law_141 ⟨Nat.le_trans (m := 600130) (by omega) (Nat.le_of_ble_eq_true rfl), Nat.le_trans (m := 7301080) (by omega) (Nat.le_of_ble_eq_true rfl)⟩ (fun x hx => ?_)
    refine V_istore hc dL_law_144 [(4, .int (iI x)), (0, .ref b), (1, .ref hB), (2, .int (iI 1)), (3, .int (iI (k : Int)))] (Nat.le_of_ble_eq_true rfl) rfl ?_
    refine V_aload_n hc dL_law_146 2 rfl ?_
    refine V_ll (As := [.ref hB]) hc hG (lm_seen hl0 hCW hI) rfl gL_law_L_seen rfl ⟨rfl, rfl⟩ ok_L_seen ⟨Nat.le_of_ble_eq_true rfl, Nat.le_of_ble_eq_true rfl⟩ (Nat.le_of_ble_eq_true rfl) dL_law_147 ⟨Nat.le_trans (m := 600130) (by omega) (Nat.le_of_ble_eq_true rfl), Nat.le_trans (m := 7301080) (by omega) (Nat.le_of_ble_eq_true rfl)⟩ (fun w1 hW1 => ?_)
    refine V_lstore hc dL_law_150 [(5, .long (SN σ.1)), (4, .int (iI x)), (0, .ref b), (1, .ref hB), (2, .int (iI 1)), (3, .int (iI (k : Int)))] (Nat.le_of_ble_eq_true rfl) rfl ?_
    refine V_aload_n hc dL_law_152 3 rfl ?_
    refine V_bipush hc dL_law_153 (by decide) ?_
    refine V_fd (As := [.int (iI 7)]) hc (fc_count hl0 hW1 hI (by decide)) (fun j h9 => h9.2.1 ⟨by decide, by decide⟩) ((σ.2.1.length : Nat) : Int) σ (fun r σ2 h9 => ⟨h9.2.1.trans cn_7, h9.2.2⟩) rfl gL_law_X4_count rfl ⟨rfl, rfl⟩ ok_X4_count ⟨Nat.le_of_ble_eq_true rfl, Nat.le_of_ble_eq_true rfl⟩ (Nat.le_of_ble_eq_true rfl) dL_law_155 ⟨Nat.le_trans (m := 600130) (by omega) (Nat.le_of_ble_eq_true rfl), Nat.le_trans (m := 7301080) (by omega) (Nat.le_of_ble_eq_true rfl)⟩ (fun w2 hW2 => ?_)
    refine V_istore hc dL_law_158 [(7, .int (iI ((σ.2.1.length : Nat) : Int))), (5, .long (SN σ.1)), (4, .int (iI x)), (0, .ref b), (1, .ref hB), (2, .int (iI 1)), (3, .int (iI (k : Int)))] (Nat.le_of_ble_eq_true rfl) rfl ?_
    refine V_aload_n hc dL_law_160 4 rfl ?_
    refine V_iload hc dL_law_161 2 rfl ?_
    refine V_ls (W1 := idW) (As := [.ref hB, .int (iI x)]) (wc := w2) (wr := []) hc hG (by rw [List.append_nil]) (lm_act hl0 hW2 hI hJ (by omega) hx) rfl gL_law_L_act rfl ⟨rfl, rfl⟩ ok_L_act ⟨Nat.le_of_ble_eq_true rfl, Nat.le_of_ble_eq_true rfl⟩ (Nat.le_of_ble_eq_true rfl) dL_law_163 ⟨Nat.le_trans (m := 600130) (by omega) (Nat.le_of_ble_eq_true rfl), Nat.le_trans (m := 7301080) (by omega) (Nat.le_of_ble_eq_true rfl)⟩ (fun r8 w8 hpo => ?_)
    obtain ⟨σ8, hP8, hW8⟩ := hpo
    refine V_weq (List.append_nil _) ?_
    obtain ⟨hr8, hP8⟩ := hP8
    rcases hP8 with ⟨hrA, hE8⟩ | ⟨hrB, B, hE8, hJB, hlB, hIB⟩
    · rw [hE8] at hW8
      refine V_istore hc dL_law_166 [(8, .int (iI r8)), (7, .int (iI ((σ.2.1.length : Nat) : Int))), (5, .long (SN σ.1)), (4, .int (iI x)), (0, .ref b), (1, .ref hB), (2, .int (iI 1)), (3, .int (iI (k : Int)))] (Nat.le_of_ble_eq_true rfl) rfl ?_
      refine V_aload_n hc dL_law_168 5 rfl ?_
      refine V_bipush hc dL_law_169 (by decide) ?_
      refine V_fd (As := [.int (iI 7)]) hc (fc_count hl0 hW8 hI (by decide)) (fun j h9 => h9.2.1 ⟨by decide, by decide⟩) ((σ.2.1.length : Nat) : Int) σ (fun r σ2 h9 => ⟨h9.2.1.trans cn_7, h9.2.2⟩) rfl gL_law_X4_count rfl ⟨rfl, rfl⟩ ok_X4_count ⟨Nat.le_of_ble_eq_true rfl, Nat.le_of_ble_eq_true rfl⟩ (Nat.le_of_ble_eq_true rfl) dL_law_171 ⟨Nat.le_trans (m := 600130) (by omega) (Nat.le_of_ble_eq_true rfl), Nat.le_trans (m := 7301080) (by omega) (Nat.le_of_ble_eq_true rfl)⟩ (fun w1 hW1 => ?_)
      refine V_istore hc dL_law_174 [(9, .int (iI ((σ.2.1.length : Nat) : Int))), (8, .int (iI r8)), (7, .int (iI ((σ.2.1.length : Nat) : Int))), (5, .long (SN σ.1)), (4, .int (iI x)), (0, .ref b), (1, .ref hB), (2, .int (iI 1)), (3, .int (iI (k : Int)))] (Nat.le_of_ble_eq_true rfl) rfl ?_
      refine V_iload hc dL_law_176 1 rfl ?_
      refine V_bipush hc dL_law_178 (by decide) ?_
      refine V_icmp_le (tgt := 262) (X := False) (Y := True) hc dL_law_180 (by decide) ⟨by omega, by decide, fun h => absurd h (by omega), fun _ => trivial⟩ (fun h => h.elim) (fun _ => ?_)
      refine V_iload hc dL_law_183 1 rfl ?_
      refine V_bipush hc dL_law_185 (by decide) ?_
      refine V_icmp_gt (tgt := 210) (X := False) (Y := True) hc dL_law_187 (by decide) ⟨by omega, by decide, fun h => absurd h (by omega), fun _ => trivial⟩ (fun h => h.elim) (fun _ => ?_)
      refine V_iload hc dL_law_190 0 rfl ?_
      refine V_iload hc dL_law_192 2 rfl ?_
      refine V_neF (tgt := 262) hc dL_law_194 (by decide) rfl ?_
      refine V_aload_n hc dL_law_197 6 rfl ?_
      refine V_ll (As := [.ref hB]) hc hG (lm_seen hl0 hW1 hI) rfl gL_law_L_seen rfl ⟨rfl, rfl⟩ ok_L_seen ⟨Nat.le_of_ble_eq_true rfl, Nat.le_of_ble_eq_true rfl⟩ (Nat.le_of_ble_eq_true rfl) dL_law_198 ⟨Nat.le_trans (m := 600130) (by omega) (Nat.le_of_ble_eq_true rfl), Nat.le_trans (m := 7301080) (by omega) (Nat.le_of_ble_eq_true rfl)⟩ (fun w2 hW2 => ?_)
      refine V_lload hc dL_law_201 3 rfl ?_
      refine V_lcmpT hc dL_law_203 (rfl) ?_
      refine V_if_ne (tgt := 262) (X := False) (Y := True) hc dL_law_204 (by decide) ⟨by decide, fun h => absurd h (by decide), fun _ => trivial⟩ (fun h => h.elim) (fun _ => ?_)
      refine V_goto (tgt := 231) hc dL_law_207 (by decide) ?_
      refine V_lv [5, 6, 8, 4, 3, 2, 1] [(0, .ref b), (1, .ref hB), (3, .int (iI (k : Int))), (4, .int (iI x)), (5, .long (SN σ.1)), (7, .int (iI ((σ.2.1.length : Nat) : Int))), (8, .int (iI r8))] rfl ?_
      refine V_widen (k1 := 2000 + 3300 * k + 204) (n1 := 30000 + 19800 * k + 1224) (by omega) (by omega) ?_
      exact M231 x r8 σ _ hx hI htx hW2 (fun w7 hW7 => A258 x r8 w7 ⟨hr8.1, hrA⟩ hW7)
    · rw [hE8] at hW8
      have hln := save_len (A := σ.1) hsv
      by_cases h6 : σ.2.1.length < 6
      · have hsl6 := hln.1 h6
        refine V_istore hc dL_law_166 [(8, .int (iI r8)), (7, .int (iI ((σ.2.1.length : Nat) : Int))), (5, .long (SN σ.1)), (4, .int (iI x)), (0, .ref b), (1, .ref hB), (2, .int (iI 1)), (3, .int (iI (k : Int)))] (Nat.le_of_ble_eq_true rfl) rfl ?_
        refine V_aload_n hc dL_law_168 5 rfl ?_
        refine V_bipush hc dL_law_169 (by decide) ?_
        refine V_fd (As := [.int (iI 7)]) hc (fc_count hl0 hW8 hIB (by decide)) (fun j h9 => h9.2.1 ⟨by decide, by decide⟩) ((ab_save σ.2.1 σ.1).length : Int) (sB σ B) (fun r σ2 h9 => ⟨h9.2.1.trans cn_7, h9.2.2⟩) rfl gL_law_X4_count rfl ⟨rfl, rfl⟩ ok_X4_count ⟨Nat.le_of_ble_eq_true rfl, Nat.le_of_ble_eq_true rfl⟩ (Nat.le_of_ble_eq_true rfl) dL_law_171 ⟨Nat.le_trans (m := 600130) (by omega) (Nat.le_of_ble_eq_true rfl), Nat.le_trans (m := 7301080) (by omega) (Nat.le_of_ble_eq_true rfl)⟩ (fun w1 hW1 => ?_)
        refine V_istore hc dL_law_174 [(9, .int (iI ((ab_save σ.2.1 σ.1).length : Int))), (8, .int (iI r8)), (7, .int (iI ((σ.2.1.length : Nat) : Int))), (5, .long (SN σ.1)), (4, .int (iI x)), (0, .ref b), (1, .ref hB), (2, .int (iI 1)), (3, .int (iI (k : Int)))] (Nat.le_of_ble_eq_true rfl) rfl ?_
        refine V_iload hc dL_law_176 1 rfl ?_
        refine V_bipush hc dL_law_178 (by decide) ?_
        refine V_icmp_le (tgt := 262) (X := False) (Y := True) hc dL_law_180 (by decide) ⟨by omega, by decide, fun h => absurd h (by omega), fun _ => trivial⟩ (fun h => h.elim) (fun _ => ?_)
        refine V_iload hc dL_law_183 1 rfl ?_
        refine V_bipush hc dL_law_185 (by decide) ?_
        refine V_icmp_gt (tgt := 210) (X := True) (Y := False) hc dL_law_187 (by decide) ⟨by omega, by decide, fun _ => trivial, fun h => h (by omega)⟩ (fun _ => ?_) (fun h => h.elim)
        refine V_iload hc dL_law_210 0 rfl ?_
        refine V_iload hc dL_law_212 2 rfl ?_
        refine V_bipush hc dL_law_214 (by decide) ?_
        refine V_icmp_ge (tgt := 226) (X := False) (Y := True) hc dL_law_216 (by decide) ⟨by omega, by decide, fun h => absurd h (by omega), fun _ => trivial⟩ (fun h => h.elim) (fun _ => ?_)
        refine V_iload hc dL_law_219 2 rfl ?_
        refine V_iconst hc dL_law_221 ?_
        refine V_iadd hc dL_law_222 ?_
        refine V_goto (tgt := 228) hc dL_law_223 (by decide) ?_
        refine V_neF (tgt := 262) hc dL_law_228 (by decide) (by omega) ?_
        refine V_lv [5, 6, 8, 4, 3, 2, 1] [(0, .ref b), (1, .ref hB), (3, .int (iI (k : Int))), (4, .int (iI x)), (5, .long (SN σ.1)), (7, .int (iI ((σ.2.1.length : Nat) : Int))), (8, .int (iI r8))] rfl ?_
        refine V_widen (k1 := 2000 + 3300 * k + 204) (n1 := 30000 + 19800 * k + 1224) (by omega) (by omega) ?_
        exact M231 x r8 (sB σ B) _ hx hIB htx hW1 (fun w7 hW7 => B258 x r8 B w7 hx ⟨hrB, hr8.2⟩ hJB (by omega) hIB hW7)
      · have hsl6 := hln.2.1 h6
        refine V_istore hc dL_law_166 [(8, .int (iI r8)), (7, .int (iI ((σ.2.1.length : Nat) : Int))), (5, .long (SN σ.1)), (4, .int (iI x)), (0, .ref b), (1, .ref hB), (2, .int (iI 1)), (3, .int (iI (k : Int)))] (Nat.le_of_ble_eq_true rfl) rfl ?_
        refine V_aload_n hc dL_law_168 5 rfl ?_
        refine V_bipush hc dL_law_169 (by decide) ?_
        refine V_fd (As := [.int (iI 7)]) hc (fc_count hl0 hW8 hIB (by decide)) (fun j h9 => h9.2.1 ⟨by decide, by decide⟩) ((ab_save σ.2.1 σ.1).length : Int) (sB σ B) (fun r σ2 h9 => ⟨h9.2.1.trans cn_7, h9.2.2⟩) rfl gL_law_X4_count rfl ⟨rfl, rfl⟩ ok_X4_count ⟨Nat.le_of_ble_eq_true rfl, Nat.le_of_ble_eq_true rfl⟩ (Nat.le_of_ble_eq_true rfl) dL_law_171 ⟨Nat.le_trans (m := 600130) (by omega) (Nat.le_of_ble_eq_true rfl), Nat.le_trans (m := 7301080) (by omega) (Nat.le_of_ble_eq_true rfl)⟩ (fun w1 hW1 => ?_)
        refine V_istore hc dL_law_174 [(9, .int (iI ((ab_save σ.2.1 σ.1).length : Int))), (8, .int (iI r8)), (7, .int (iI ((σ.2.1.length : Nat) : Int))), (5, .long (SN σ.1)), (4, .int (iI x)), (0, .ref b), (1, .ref hB), (2, .int (iI 1)), (3, .int (iI (k : Int)))] (Nat.le_of_ble_eq_true rfl) rfl ?_
        refine V_iload hc dL_law_176 1 rfl ?_
        refine V_bipush hc dL_law_178 (by decide) ?_
        refine V_icmp_le (tgt := 262) (X := False) (Y := True) hc dL_law_180 (by decide) ⟨by omega, by decide, fun h => absurd h (by omega), fun _ => trivial⟩ (fun h => h.elim) (fun _ => ?_)
        refine V_iload hc dL_law_183 1 rfl ?_
        refine V_bipush hc dL_law_185 (by decide) ?_
        refine V_icmp_gt (tgt := 210) (X := True) (Y := False) hc dL_law_187 (by decide) ⟨by omega, by decide, fun _ => trivial, fun h => h (by omega)⟩ (fun _ => ?_) (fun h => h.elim)
        refine V_iload hc dL_law_210 0 rfl ?_
        refine V_iload hc dL_law_212 2 rfl ?_
        refine V_bipush hc dL_law_214 (by decide) ?_
        refine V_icmp_ge (tgt := 226) (X := True) (Y := False) hc dL_law_216 (by decide) ⟨by omega, by decide, fun _ => trivial, fun h => h (by omega)⟩ (fun _ => ?_) (fun h => h.elim)
        refine V_bipush hc dL_law_226 (by decide) ?_
        refine V_neF (tgt := 262) hc dL_law_228 (by decide) (by omega) ?_
        refine V_lv [5, 6, 8, 4, 3, 2, 1] [(0, .ref b), (1, .ref hB), (3, .int (iI (k : Int))), (4, .int (iI x)), (5, .long (SN σ.1)), (7, .int (iI ((σ.2.1.length : Nat) : Int))), (8, .int (iI r8))] rfl ?_
        refine V_widen (k1 := 2000 + 3300 * k + 204) (n1 := 30000 + 19800 * k + 1224) (by omega) (by omega) ?_
        exact M231 x r8 (sB σ B) _ hx hIB htx hW1 (fun w7 hW7 => B258 x r8 B w7 hx ⟨hrB, hr8.2⟩ hJB (by omega) hIB hW7)
end LOOP
set_option maxHeartbeats 8000000 in
/-- from the entry -/
theorem whole_start {p : Program} {e : Env} {s : State} {m : MethodId} {below : List Frame} {meth : Method} {c : Code} (l : Launch) (hflags : l.flags = flags0) {b L : Nat} {xs : Nat → Int32} (hL : L ≤ 260) (C0 : lw_At p s m meth c b L xs) : W p l e room_1 s m #[Value.ref b] below meth c s.heap [] 0 0 (lw_Z below #[Value.ref b] s) (entryFrame m ([Value.ref b] : List Value).toArray 13) := by
  obtain ⟨hx, hb, hr, hml, hown, hts, hX, hbl, hlocks, hgv⟩ := id C0
  have hs : ∀ w ∈ gv, w.before #[Value.ref b] s = true := flat_of_before _ hgv
  have hts2 : ∀ w ∈ wsL_law, w.before #[Value.ref b] s = true := fun w h => hts w (wsL_law_in w h)
  have hl0 : l.stackTraces = false := by unfold Launch.stackTraces; rw [hflags]; decide +kernel
  have hbA : ¬ lwA s b := fun q => by
    have q : s.heap.size ≤ b := q
    omega
  obtain ⟨D, t, hK⟩ := lw_K hts
  have hF := lw_Fx hts hs
  have hG := lw_Gx hs
  have hc : Cx p room_1 s m #[Value.ref b] meth c D t (lwA s) 13 cL_law wsL_law RL := ⟨hx, hb, hml, hown, hts2, hK, fun q h => h, hlocks, lw_Ev hts hs⟩
  have hI0 : ivE σ0 := ⟨0, iv0⟩
  have hIk : ivE (A0, [], ab_snap (fun _ => none) 1 A0, []) := ivE_keep hI0 (s := 1) (by decide)
  have main : V p l e room_1 s m #[Value.ref b] below meth c D (lwA s) 13 0 0 (lw_Z below #[Value.ref b] s) 0 (lv_args 0 [.ref b]) [] [] := by
    refine V_lv [0] [(0, .ref b)] rfl ?_
    refine V_newObjL (C := RX4) (T := TX4) (N := 9) (mc := 140) (ms := 9244) hc hF [.null, .null, .int (iI 0), .null, .null, .null, .null, .null, .null] rfl wi_X4 tyX4 tyX4_ok m_law_1.1 m_law_1.2.1 m_law_1.2.2.1 df_X4 (fun q9 => met_X4_init l D t q9) m_law_1.2.2.2.1 gL_law_X4_init rfl ⟨rfl, rfl⟩ ok_X4_init m_law_1.2.2.2.2 ⟨Nat.le_of_ble_eq_true rfl, Nat.le_of_ble_eq_true rfl⟩ (Nat.le_of_ble_eq_true rfl) dL_law_0 dL_law_3 dL_law_4 ⟨Nat.le_of_ble_eq_true rfl, Nat.le_of_ble_eq_true rfl⟩ (fun hB u1 _ => ?_)
    refine V_weq (ws1 := W1_X4_init t hB u1) (List.append_nil _) ?_
    have hW0 := CW0 t hB u1
    refine V_astore_n hc dL_law_7 [(1, .ref hB), (0, .ref b)] (Nat.le_of_ble_eq_true rfl) rfl ?_
    refine V_aload_n hc dL_law_8 0 rfl ?_
    refine V_bipush hc dL_law_9 (by decide) ?_
    refine V_iconst hc dL_law_11 ?_
    refine V_iconst hc dL_law_12 ?_
    refine V_lc (As := [.ref hB, .int (iI 7), .int (iI 0), .int (iI 0)]) (hh := [(0, 158, 159, 51), (0, 158, 164, 53), (0, 158, 169, 55)]) hc hG (lc_call_7 hl0 hW0 hI0 (by decide) (by decide)) (-12) σ0 (dr_undo rfl) rfl gL_law_L_call rfl ⟨rfl, rfl⟩ ok_L_call ⟨Nat.le_of_ble_eq_true rfl, Nat.le_of_ble_eq_true rfl⟩ (Nat.le_of_ble_eq_true rfl) dL_law_13 ⟨Nat.le_of_ble_eq_true rfl, Nat.le_of_ble_eq_true rfl⟩ (fun w1 hW1 => ?_)
    refine V_bipush hc dL_law_16 (by decide) ?_
    refine V_icmp_ne (tgt := 125) (X := False) (Y := True) hc dL_law_18 (by decide) ⟨by decide, by decide, fun h => absurd h (by decide), fun _ => trivial⟩ (fun h => h.elim) (fun _ => ?_)
    refine V_aload_n hc dL_law_21 0 rfl ?_
    refine V_bipush hc dL_law_22 (by decide) ?_
    refine V_iconst hc dL_law_24 ?_
    refine V_iconst hc dL_law_25 ?_
    refine V_lc (As := [.ref hB, .int (iI 9), .int (iI 0), .int (iI 0)]) (hh := [(0, 158, 159, 51), (0, 158, 164, 53), (0, 158, 169, 55)]) hc hG (lc_call_9 hl0 hW1 hI0 (by decide) (by decide)) (-12) σ0 (dr_goBackS (by decide) rfl) rfl gL_law_L_call rfl ⟨rfl, rfl⟩ ok_L_call ⟨Nat.le_of_ble_eq_true rfl, Nat.le_of_ble_eq_true rfl⟩ (Nat.le_of_ble_eq_true rfl) dL_law_26 ⟨Nat.le_of_ble_eq_true rfl, Nat.le_of_ble_eq_true rfl⟩ (fun w2 hW2 => ?_)
    refine V_bipush hc dL_law_29 (by decide) ?_
    refine V_icmp_ne (tgt := 125) (X := False) (Y := True) hc dL_law_31 (by decide) ⟨by decide, by decide, fun h => absurd h (by decide), fun _ => trivial⟩ (fun h => h.elim) (fun _ => ?_)
    refine V_aload_n hc dL_law_34 0 rfl ?_
    refine V_bipush hc dL_law_35 (by decide) ?_
    refine V_iconst hc dL_law_37 ?_
    refine V_iconst hc dL_law_38 ?_
    refine V_lc (As := [.ref hB, .int (iI 9), .int (iI 2), .int (iI 0)]) (hh := [(0, 158, 159, 51), (0, 158, 164, 53), (0, 158, 169, 55)]) hc hG (lc_call_9 hl0 hW2 hI0 (by decide) (by decide)) (-11) σ0 (dr_goBackA (by decide)) rfl gL_law_L_call rfl ⟨rfl, rfl⟩ ok_L_call ⟨Nat.le_of_ble_eq_true rfl, Nat.le_of_ble_eq_true rfl⟩ (Nat.le_of_ble_eq_true rfl) dL_law_39 ⟨Nat.le_of_ble_eq_true rfl, Nat.le_of_ble_eq_true rfl⟩ (fun w3 hW3 => ?_)
    refine V_bipush hc dL_law_42 (by decide) ?_
    refine V_icmp_ne (tgt := 125) (X := False) (Y := True) hc dL_law_44 (by decide) ⟨by decide, by decide, fun h => absurd h (by decide), fun _ => trivial⟩ (fun h => h.elim) (fun _ => ?_)
    refine V_aload_n hc dL_law_47 0 rfl ?_
    refine V_bipush hc dL_law_48 (by decide) ?_
    refine V_iconst hc dL_law_50 ?_
    refine V_iconst hc dL_law_51 ?_
    refine V_lc (As := [.ref hB, .int (iI 8), .int (iI 1), .int (iI 0)]) (hh := [(0, 158, 159, 51), (0, 158, 164, 53), (0, 158, 169, 55)]) hc hG (lc_call_8 hl0 hW3 hI0 (by decide) (by decide)) 0 (A0, [], ab_snap (fun _ => none) 1 A0, []) (dkc (dk_keep (by decide)) rfl rfl) rfl gL_law_L_call rfl ⟨rfl, rfl⟩ ok_L_call ⟨Nat.le_of_ble_eq_true rfl, Nat.le_of_ble_eq_true rfl⟩ (Nat.le_of_ble_eq_true rfl) dL_law_52 ⟨Nat.le_of_ble_eq_true rfl, Nat.le_of_ble_eq_true rfl⟩ (fun w4 hW4 => ?_)
    refine V_if_ne (tgt := 125) (X := False) (Y := True) hc dL_law_55 (by decide) ⟨by decide, fun h => absurd h (by decide), fun _ => trivial⟩ (fun h => h.elim) (fun _ => ?_)
    refine V_aload_n hc dL_law_58 0 rfl ?_
    refine V_iconst hc dL_law_59 ?_
    refine V_fd (As := [.int (iI 0)]) hc (fc_setting hl0 hW4 hIk (by decide)) (fun j h9 => h9.2.1 ⟨by decide, by decide⟩) 50 (A0, [], ab_snap (fun _ => none) 1 A0, []) (fun r σ2 h9 => ⟨h9.2.1.trans rfl, h9.2.2⟩) rfl gL_law_X4_setting rfl ⟨rfl, rfl⟩ ok_X4_setting ⟨Nat.le_of_ble_eq_true rfl, Nat.le_of_ble_eq_true rfl⟩ (Nat.le_of_ble_eq_true rfl) dL_law_60 ⟨Nat.le_of_ble_eq_true rfl, Nat.le_of_ble_eq_true rfl⟩ (fun w5 hW5 => ?_)
    refine V_bipush hc dL_law_63 (by decide) ?_
    refine V_icmp_ne (tgt := 125) (X := False) (Y := True) hc dL_law_65 (by decide) ⟨by decide, by decide, fun h => absurd h (by decide), fun _ => trivial⟩ (fun h => h.elim) (fun _ => ?_)
    refine V_aload_n hc dL_law_68 0 rfl ?_
    refine V_iconst hc dL_law_69 ?_
    refine V_fd (As := [.int (iI 1)]) hc (fc_setting hl0 hW5 hIk (by decide)) (fun j h9 => h9.2.1 ⟨by decide, by decide⟩) 10 (A0, [], ab_snap (fun _ => none) 1 A0, []) (fun r σ2 h9 => ⟨h9.2.1.trans rfl, h9.2.2⟩) rfl gL_law_X4_setting rfl ⟨rfl, rfl⟩ ok_X4_setting ⟨Nat.le_of_ble_eq_true rfl, Nat.le_of_ble_eq_true rfl⟩ (Nat.le_of_ble_eq_true rfl) dL_law_70 ⟨Nat.le_of_ble_eq_true rfl, Nat.le_of_ble_eq_true rfl⟩ (fun w6 hW6 => ?_)
    refine V_bipush hc dL_law_73 (by decide) ?_
    refine V_icmp_ne (tgt := 125) (X := False) (Y := True) hc dL_law_75 (by decide) ⟨by decide, by decide, fun h => absurd h (by decide), fun _ => trivial⟩ (fun h => h.elim) (fun _ => ?_)
    refine V_aload_n hc dL_law_78 0 rfl ?_
    refine V_iconst hc dL_law_79 ?_
    refine V_fd (As := [.int (iI 2)]) hc (fc_setting hl0 hW6 hIk (by decide)) (fun j h9 => h9.2.1 ⟨by decide, by decide⟩) 2 (A0, [], ab_snap (fun _ => none) 1 A0, []) (fun r σ2 h9 => ⟨h9.2.1.trans rfl, h9.2.2⟩) rfl gL_law_X4_setting rfl ⟨rfl, rfl⟩ ok_X4_setting ⟨Nat.le_of_ble_eq_true rfl, Nat.le_of_ble_eq_true rfl⟩ (Nat.le_of_ble_eq_true rfl) dL_law_80 ⟨Nat.le_of_ble_eq_true rfl, Nat.le_of_ble_eq_true rfl⟩ (fun w7 hW7 => ?_)
    refine V_iconst hc dL_law_83 ?_
    refine V_icmp_ne (tgt := 125) (X := False) (Y := True) hc dL_law_84 (by decide) ⟨by decide, by decide, fun h => absurd h (by decide), fun _ => trivial⟩ (fun h => h.elim) (fun _ => ?_)
    refine V_aload_n hc dL_law_87 0 rfl ?_
    refine V_iconst hc dL_law_88 ?_
    refine V_lz (As := [.ref hB, .int (iI 0)]) hc hG (lm_refuses hl0 hW7 hIk rfl (x := 0) (by decide)) 1 (A0, [], ab_snap (fun _ => none) 1 A0, []) (fun r σ2 h9 => h9) rfl gL_law_L_refuses rfl ⟨rfl, rfl⟩ ok_L_refuses ⟨Nat.le_of_ble_eq_true rfl, Nat.le_of_ble_eq_true rfl⟩ (Nat.le_of_ble_eq_true rfl) dL_law_89 ⟨Nat.le_of_ble_eq_true rfl, Nat.le_of_ble_eq_true rfl⟩ (fun w8 hW8 => ?_)
    refine V_if_eq (tgt := 125) (X := False) (Y := True) hc dL_law_92 (by decide) ⟨by decide, fun h => absurd h (by decide), fun _ => trivial⟩ (fun h => h.elim) (fun _ => ?_)
    refine V_aload_n hc dL_law_95 0 rfl ?_
    refine V_iconst hc dL_law_96 ?_
    refine V_lz (As := [.ref hB, .int (iI 1)]) hc hG (lm_refuses hl0 hW8 hIk rfl (x := 1) (by decide)) 1 (A0, [], ab_snap (fun _ => none) 1 A0, []) (fun r σ2 h9 => h9) rfl gL_law_L_refuses rfl ⟨rfl, rfl⟩ ok_L_refuses ⟨Nat.le_of_ble_eq_true rfl, Nat.le_of_ble_eq_true rfl⟩ (Nat.le_of_ble_eq_true rfl) dL_law_97 ⟨Nat.le_of_ble_eq_true rfl, Nat.le_of_ble_eq_true rfl⟩ (fun w9 hW9 => ?_)
    refine V_if_eq (tgt := 125) (X := False) (Y := True) hc dL_law_100 (by decide) ⟨by decide, fun h => absurd h (by decide), fun _ => trivial⟩ (fun h => h.elim) (fun _ => ?_)
    refine V_newObjL (C := RX4) (T := TX4) (N := 9) (mc := 140) (ms := 9244) hc hF [.null, .null, .int (iI 0), .null, .null, .null, .null, .null, .null] rfl wi_X4 tyX4 tyX4_ok m_law_1.1 m_law_1.2.1 m_law_1.2.2.1 df_X4 (fun q9 => met_X4_init l D t q9) m_law_1.2.2.2.1 gL_law_X4_init rfl ⟨rfl, rfl⟩ ok_X4_init m_law_1.2.2.2.2 ⟨Nat.le_of_ble_eq_true rfl, Nat.le_of_ble_eq_true rfl⟩ (Nat.le_of_ble_eq_true rfl) dL_law_103 dL_law_106 dL_law_107 ⟨Nat.le_of_ble_eq_true rfl, Nat.le_of_ble_eq_true rfl⟩ (fun hB2 u2 _ => ?_)
    refine V_aload_n hc dL_law_110 1 rfl ?_
    refine V_iconst hc dL_law_111 ?_
    refine V_cell hc hX hbl hbA hL (by omega) gL_law_L_cell ⟨Nat.le_of_ble_eq_true rfl, Nat.le_of_ble_eq_true rfl⟩ (Nat.le_of_ble_eq_true rfl) dL_law_112 ⟨Nat.le_of_ble_eq_true rfl, Nat.le_of_ble_eq_true rfl⟩ (fun x hx9 => ?_)
    refine V_ls (W1 := idW) (As := [.ref hB2, .int (iI x)]) (wc := W1_X4_init t hB2 u2) (wr := w9) hc hG (List.Perm.refl _) (lm_isFull hl0 (CW0 t hB2 u2) hx9) rfl gL_law_L_isFull rfl ⟨rfl, rfl⟩ ok_L_isFull ⟨Nat.le_of_ble_eq_true rfl, Nat.le_of_ble_eq_true rfl⟩ (Nat.le_of_ble_eq_true rfl) dL_law_115 ⟨Nat.le_of_ble_eq_true rfl, Nat.le_of_ble_eq_true rfl⟩ (fun r9 u9 h9 => ?_)
    subst h9
    refine V_less (ws1 := w9) (wr := idW u9) List.perm_append_comm ?_
    refine V_if_eq (tgt := 125) (X := False) (Y := True) hc dL_law_118 (by decide) ⟨by decide, fun h => absurd h (by decide), fun _ => trivial⟩ (fun h => h.elim) (fun _ => ?_)
    refine V_iconst hc dL_law_121 ?_
    refine V_goto (tgt := 126) hc dL_law_122 (by decide) ?_
    refine V_istore_n hc dL_law_126 [(2, .int (iI 1)), (1, .ref hB), (0, .ref b)] (Nat.le_of_ble_eq_true rfl) rfl ?_
    refine V_iconst hc dL_law_127 ?_
    refine V_istore_n hc dL_law_128 [(3, .int (iI 1)), (2, .int (iI 1)), (1, .ref hB), (0, .ref b)] (Nat.le_of_ble_eq_true rfl) rfl ?_
    refine V_lv [3, 2, 1, 0] [(0, .ref b), (1, .ref hB), (2, .int (iI 1)), (3, .int (iI ((1 : Nat) : Int)))] rfl ?_
    refine V_widen (k1 := 2000 + 3300 * 1) (n1 := 30000 + 19800 * 1) (by omega) (by omega) ?_
    exact law_loop hc hG hl0 hr hX hbl hbA hL 49 1 (A0, [], ab_snap (fun _ => none) 1 A0, []) _ rfl ⟨hIk, fun q9 => absurd q9 (by decide), Nat.zero_le _, Nat.zero_le _, rfl, rfl⟩ hW9
  have hl := lv_entry ([.ref b]) (n := 13) (Nat.le_of_ble_eq_true rfl)
  rw [lg_entry_eq]
  exact main s.heap [] _ hl (fun k q h => by simp at h) ⟨fun i j p q h => by simp at h, fun k q h => by simp at h⟩ va_S.rf
set_option maxHeartbeats 4000000 in
theorem lw_walk (l : Launch) (hflags : l.flags = flags0) (b : Addr) (xs : List Int32) : MetFree l x (headSpec (Jvm.Cond.code x code maxLocals ret :: tables_1) room_1) (lw_P b xs) (fun _ _ _ _ _ => True) lw_Q := by
  refine MetFree.of_bodyS (code := code) (maxLocals := maxLocals) (ret := ret) (by decide) ?_ ?_
  · intro args s m h hn
    obtain ⟨meth, c, h1, h2, h3, h4, h5, h6, -, -⟩ := Cond.code_spec hn (atoms_spec (ws := Jvm.Cond.code x code maxLocals ret :: tables_1) h _ List.mem_cons_self)
    exact ⟨meth, c, h1, h2, h3, h4, h5, h6⟩
  · intro p e s m args below meth c s₁ B hml0 hP _
    obtain ⟨rfl, hx, hbd, hgv⟩ := hP
    obtain ⟨scr, harrAt, hlist, hof, hsmall⟩ := hx
    obtain ⟨hcb, hkn, -, -⟩ := State.arrayAt?_spec harrAt
    have hown : s.vm.findClass R_law = some m.cls := findClass_of_methodNamed B.named
    have hts0 : ∀ c ∈ (Jvm.Cond.code x code maxLocals ret :: tables_1), c.before #[Value.ref b] s = true := atoms_spec (ws := Jvm.Cond.code x code maxLocals ret :: tables_1) B.pre
    have hts : ∀ w ∈ lw_tbl, w.before #[Value.ref b] s = true := k2_hts_sels lw_privs (fun w hw => hts0 w (List.mem_cons_of_mem _ hw)) lw_privs_ok
    have hml : c.maxLocals = 13 := B.maxLocals_eq (hts0 _ List.mem_cons_self)
    have X₀ : Stand p l e room_1 s m #[Value.ref b] below meth c s₁ [] 0 0 := Stand.of_body B
    have hh0 : s₁.heap = s.heap := by rw [B.state]; rfl
    have hsz : scr.slots.size = xs.length := by rw [← Array.length_toList, hlist, List.length_map]
    have hval : ∀ j : Nat, j < xs.length → scr.slots[j]? = some (.int (xs.getD j 0)) := fun j hj => by
      rw [← Array.getElem?_toList, hlist]
      simp [hj]
    have hbl : b < s.heap.size := (Array.getElem?_eq_some_iff.mp hcb).1
    have hX : va_X b xs.length (fun j => xs.getD j 0) s s.heap := ⟨scr, hcb, hof, hkn, hsz, hval⟩
    have K : W p l e room_1 s m #[Value.ref b] below meth c s₁.heap [] 0 0 (lw_Z below #[Value.ref b] s) (entryFrame m ([Value.ref b] : List Value).toArray 13) := by
      rw [hh0]
      exact whole_start l hflags hbd ⟨B.exec, B.bytes, B.returns, hml, hown, hts, hX, hbl, B.notSynchronized, hgv⟩
    obtain ⟨t, a1, o, b1, b2, b3⟩ := K s₁ rfl X₀
    exact ⟨t, o, a1, b1, b2, b3⟩
theorem lw_pre_spec {args : Array Value} {s : State} (h : (Jvm.Cond.and given_1 narrow_1).before args s = true) (hr : rest_1_c.before args s = true) : ∃ (b : Addr) (xs : List Int32), lw_P b xs args s := by
  have hs := flat_of_before _ h
  have hq := flat_of_before _ hr
  have hc : (Cond.count 1).before args s = true := hs _ (by decide +kernel)
  have harr : (Cond.arrayOf (.arg 0) .int).before args s = true := hs _ (by decide +kernel)
  have hle : (Cond.le (.length (.arg 0)) (.int 260)).before args s = true := hs _ (by decide +kernel)
  have hlen : (Cond.isInt (.length (.arg 0))).before args s = true := hq _ (by decide +kernel)
  have hall : (Cond.all (.arg 0) (.isInt (.elem (.arg 0) (.index 0)))).before args s = true := hq _ (by decide +kernel)
  obtain ⟨b, xs, hb, hx⟩ := State.ints_of_pre rfl harr hlen hall
  have hsm : xs.length < 2 ^ 31 := hx.choose_spec.2.2.2
  have hev : (Term.length (.arg 0)).eval args s none [] s = some (.int xs.length.toInt32) := hx.length_eval hb
  have hv := Cond.le_ints hev (show (Term.int 260).eval args s none [] s = some (.int 260) from rfl)
  have hd : xs.length.toInt32 ≤ 260 := by
    simpa [Cond.before, Cond.holds, hv] using hle
  have hN : xs.length ≤ 260 := (Int32.ofNat_le_ofNat hsm (by decide)).mp (show Int32.ofNat xs.length ≤ Int32.ofNat 260 from hd)
  exact ⟨b, xs, Cond.one_arg hc (show args[0]? = some (.ref b) from hb), hx, hN, h⟩
theorem lw_comes (l : Launch) (hflags : l.flags = flags0) : Comes l x (Jvm.Cond.code x code maxLocals ret :: tables_1) room_1 (fun tb e args s => Calls_1 tb e args s ∧ rest_1 tb e args s ∧ Pre_1 tb e args s)
    (fun _ _ args s o t => lw_Q args s o t) := by
  intro p e ha hc hk s m args below hf hfit hheap happ hpre
  obtain ⟨b, xs, hP⟩ := lw_pre_spec hpre.2.2 hpre.2.1
  obtain ⟨k, o, h1, h2, h3, hQ⟩ := lw_walk l hflags b xs p e ha hc hk s m args below hf ((Spec.applies_iff_loose hf).mp happ).1 hP trivial
  exact ⟨k, o, h1, h2, h3, hQ⟩
theorem lw_frame {s t : State} {o : Outcome} {args : Array Value} (h : Framed s o t [] 600130 7301080) :
    Framed s o t (fieldLocs frame_1_writes args s ++ arrayLocs frame_1_arrays args s ++ staticLocs frame_1_statics s) 600130 7301080 := h
theorem lw_limb (L : Cond) (hL : ∀ (args : Array Value) (s t : State), L.after args s (.returned (some (.int 1))) t = true) :
    ArmFor flags0 classFile x code maxLocals ret World_1 tables_1 room_1 Calls_1 rest_1 Pre_1
      (fun tb e a s o t => postC L tb e a s o t ∧ Framed s o t (fieldLocs frame_1_writes a s ++ arrayLocs frame_1_arrays a s ++ staticLocs frame_1_statics s) 600130 7301080) := by
  intro l hflags _ _ p e ha hc hk s m args below hf hfit hheap happ hpre
  obtain ⟨k, o, h1, h2, h3, rfl, hF⟩ := lw_comes l hflags p e ha hc hk s m args below hf hfit hheap happ hpre
  exact ⟨k, _, h1, h2, h3, hL args s _, lw_frame hF⟩
theorem i_vc : Claimed_1_1 ∧ Claimed_1_2 := ⟨lw_limb limb_1_1 (fun args s t => by simp [limb_1_1, Cond.after, Cond.holds, Cond.value]), lw_limb limb_1_2 (fun args s t => Cond.after_iff.mpr (by
  first | (rw [show limb_1_2 = Cond.eq .result (.int 1) from rfl, Cond.eq_ints (x := 1) (y := 1) rfl rfl]; simp; done) | (simp [limb_1_2, Cond.value, Term.eval]; done)))⟩
