/-! the calls of the law -/
theorem rg_add {σ : aW} {x : Int} (o : Int) : rf_add σ x o → o = 1 ∨ o = 2 := fun h => h.elim (fun h => Or.inl h.2) (fun h => Or.inr h.2.2)
theorem rg_remove {σ : aW} {x : Int} (o : Int) : rf_remove σ x o → o = 1 ∨ o = 2 := fun h => Or.inl h.2
theorem rg_idle {σ : aW} (o : Int) : rf_idle σ o → o = 1 ∨ o = 2 := fun h => h.elim
theorem rg_begin {σ : aW} (o : Int) : rf_begin σ o → o = 1 ∨ o = 2 := fun h => Or.inl h.2
theorem rg_abandon {σ : aW} (o : Int) : rf_abandon σ o → o = 1 ∨ o = 2 := fun h => Or.inl h.2
theorem rg_set {σ : aW} {x y : Int} (o : Int) : rf_set σ x y o → o = 1 ∨ o = 2 := fun h => h.elim (fun h => Or.inl h.2) (fun h => Or.inr h.2.2)
theorem rg_append {σ : aW} {x : Int} (o : Int) : rf_append σ x o → o = 1 ∨ o = 2 := fun h => h.elim (fun h => Or.inl h.2) (fun h => Or.inr h.2.2)
theorem rg_clearBuffer {σ : aW} (o : Int) : rf_clearBuffer σ o → o = 1 ∨ o = 2 := fun h => h.elim
theorem rg_firstError {σ : aW} (o : Int) : rf_firstError σ o → o = 1 ∨ o = 2 := fun h => h.elim
theorem rg_execute {σ : aW} (o : Int) : rf_execute σ o → o = 1 ∨ o = 2 := fun h => Or.inl h.2
theorem rg_undo {σ : aW} (o : Int) : rf_undo σ o → o = 1 ∨ o = 2 := fun h => Or.inl h.2
theorem rg_keep {σ : aW} {x : Int} (o : Int) : rf_keep σ x o → o = 1 ∨ o = 2 := fun h => Or.inl h.2
theorem rg_goBack {σ : aW} {x : Int} (o : Int) : rf_goBack σ x o → o = 1 ∨ o = 2 := fun h => h.elim (fun h => Or.inl h.2) (fun h => Or.inr h.2.2)
theorem rg_contains {σ : aW} {x : Int} (o : Int) : rf_contains σ x o → o = 1 ∨ o = 2 := fun h => Or.inl h.2
theorem rg_near {σ : aW} {x y : Int} (o : Int) : rf_near σ x y o → o = 1 ∨ o = 2 := fun h => Or.inl h.2
theorem rg_rank {σ : aW} {x : Int} (o : Int) : rf_rank σ x o → o = 1 ∨ o = 2 := fun h => Or.inl h.2
theorem rg_keyAt {σ : aW} {x : Int} (o : Int) : rf_keyAt σ x o → o = 1 ∨ o = 2 := fun h => Or.inl h.2
theorem rg_node {σ : aW} {x y z : Int} (o : Int) : rf_node σ x y z o → o = 1 ∨ o = 2 := fun h => Or.inl h.2
theorem rg_path {σ : aW} {x y : Int} (o : Int) : rf_path σ x y o → o = 1 ∨ o = 2 := fun h => Or.inl h.2
theorem rg_tree {σ : aW} {x y : Int} (o : Int) : rf_tree σ x y o → o = 1 ∨ o = 2 := fun h => Or.inl h.2
theorem rg_rebuild {σ : aW} {x : Int} (o : Int) : rf_rebuild σ x o → o = 1 ∨ o = 2 := fun h => Or.inl h.2
theorem rg_queued {σ : aW} {x : Int} (o : Int) : rf_queued σ x o → o = 1 ∨ o = 2 := fun h => Or.inl h.2
theorem rg_count {σ : aW} {x : Int} (o : Int) : rf_count σ x o → o = 1 ∨ o = 2 := fun h => Or.inl h.2
theorem rg_setting {σ : aW} {x : Int} (o : Int) : rf_setting σ x o → o = 1 ∨ o = 2 := fun h => Or.inl h.2
theorem rg_untilExchange {σ : aW} {x : Int} (o : Int) : rf_untilExchange σ x o → o = 1 ∨ o = 2 := fun h => Or.inl h.2
theorem rg_longest {σ : aW} {x : Int} (o : Int) : rf_longest σ x o → o = 1 ∨ o = 2 := fun h => Or.inl h.2
theorem rg_leastSpeed {σ : aW} {x : Int} (o : Int) : rf_leastSpeed σ x o → o = 1 ∨ o = 2 := fun h => Or.inl h.2
section LAWC
variable {p : Program} {l : Launch} {e : Env} {s : State} {m : MethodId} {args : Array Value} {below : List Frame} {meth : Method} {c : Code} {D : va_G} {t : Nat → ClassId} {A : Nat → Prop} {cells slots : Nat} {Q : State → Prop}
set_option maxHeartbeats 4000000 in
set_option maxRecDepth 100000 in
theorem case_add (hc : Cx p room_1 s m args meth c D t A 9 cL_law wsL_law RL) (hG : Gx s) (hl0 : l.stackTraces = false) {L : Nat} {xs : Nat → Int32} {b : Nat} (hX : va_X b L xs s s.heap) (hbl : b < s.heap.size) (hbA : ¬ A b) (hL : L ≤ 2048) {hB hM oA : Nat} {a : Nat → Nat} {u : Nat → Nat → Int} {σ : aW} {B : Int} {f0 : Nat → Int64} {wC : va_W} (hCW : CW t hB wC σ) (hR : MREL u σ) (hI : iv B σ) (hb : B ≤ 1000000) {i : Int} (hi : 0 ≤ i ∧ i + 4 ≤ (L : Int)) (hfit : cells + 2 ≤ room_1.cells ∧ slots + 12 ≤ room_1.slots)
    (hK : ∀ (σ' : aW) (u' : Nat → Nat → Int) (wC' : va_W) (f' : Nat → Int64), CW t hB wC' σ' → MREL u' σ' → iv (B + 248) σ' → V p l e room_1 s m args below meth c D A 9 (cells + 2) (slots + 12) Q 1651 [(0, .ref b), (1, .ref hB), (2, .ref hM), (3, .ref oA), (4, .int (iI i))] [] ([aJ t oA 1 f'] ++ (LM t hM a u' ++ wC'))) : V p l e room_1 s m args below meth c D A 9 cells slots Q 164 [(0, .ref b), (1, .ref hB), (2, .ref hM), (3, .ref oA), (4, .int (iI i))] [] ([aJ t oA 1 f0] ++ (LM t hM a u ++ wC)) := by
  refine V_aload_n hc dL_law_164 1 rfl ?_
  refine V_aload_n hc dL_law_165 0 rfl ?_
  refine V_iload hc dL_law_166 4 rfl ?_
  refine V_iconst hc dL_law_168 ?_
  refine V_iadd hc dL_law_169 ?_
  refine V_sld hc hX hbl hbA (by omega) hL dL_law_170 ?_
  refine V_aload_n hc dL_law_171 3 rfl ?_
  refine V_callW (As := [.ref hB, .int (iI ((xs (i + 1).toNat).toInt)), .ref oA]) (hh := [(0, 9, 12, 13), (0, 9, 15, 15)]) hc hG (pL1 _ _ _) (cls_add hl0 f0 hCW hI (inR_x _)) rfl gL_law_L_add rfl ⟨rfl, rfl⟩ ok_L_add ⟨Nat.le_of_ble_eq_true rfl, Nat.le_of_ble_eq_true rfl⟩ (Nat.le_of_ble_eq_true rfl) dL_law_172 ⟨by omega, by omega⟩ (fun r w hpo => ?_)
  obtain ⟨v, σ1, hrl, hCW1, hout⟩ := hpo
  obtain ⟨C1, f1⟩ := w
  have hrg := rl_rg hrl rg_add
  have hI1 : iv (B + 248) σ1 := iv_rl hI (fun v s h => iv_add hI h) hrl
  refine V_istore hc dL_law_175 [(5, .int (iI r)), (0, .ref b), (1, .ref hB), (2, .ref hM), (3, .ref oA), (4, .int (iI i))] (Nat.le_of_ble_eq_true rfl) rfl ?_
  refine V_aload_n hc dL_law_177 3 rfl ?_
  refine V_aload_n hc dL_law_178 1 rfl ?_
  refine V_iload hc dL_law_179 5 rfl ?_
  refine V_iconst hc dL_law_181 ?_
  refine V_iadd hc dL_law_182 ?_
  refine V_sld hc hX hbl hbA (by omega) hL dL_law_183 ?_
  refine V_callVI (As := [.int (iI ((xs (i + 1).toNat).toInt))]) (wc := LM t hM a u) (wr := C1 ++ [aJ t oA 1 f1]) hc List.perm_append_comm rfl rfl (mdl_add hR hI hb (inR_x _)) rfl gL_law_X5_add rfl ⟨rfl, rfl⟩ ok_X5_add ⟨Nat.le_of_ble_eq_true rfl, Nat.le_of_ble_eq_true rfl⟩ (Nat.le_of_ble_eq_true rfl) dL_law_184 ⟨by omega, by omega⟩ (fun r2 u2 hpo => ?_)
  obtain ⟨σ2, hrl2, hR2⟩ := hpo
  obtain ⟨e1, e2, e3⟩ := det_add hrl hrl2
  subst e2
  refine V_istore hc dL_law_187 [(6, .int (iI r2)), (5, .int (iI r)), (0, .ref b), (1, .ref hB), (2, .ref hM), (3, .ref oA), (4, .int (iI i))] (Nat.le_of_ble_eq_true rfl) rfl ?_
  refine V_aload_n hc dL_law_189 4 rfl ?_
  refine V_callVI (As := []) (wc := LM t hM a u2) (wr := C1 ++ [aJ t oA 1 f1]) hc (List.Perm.refl _) rfl rfl mdl_thrown rfl gL_law_X5_thrown rfl ⟨rfl, rfl⟩ ok_X5_thrown ⟨Nat.le_of_ble_eq_true rfl, Nat.le_of_ble_eq_true rfl⟩ (Nat.le_of_ble_eq_true rfl) dL_law_190 ⟨by omega, by omega⟩ (fun r3 u3 hpo => ?_)
  refine V_pm (ws1 := [aJ t oA 1 f1] ++ (LM t hM a u2 ++ C1)) (pL2 _ _ _) ?_
  refine V_iload hc dL_law_193 1 rfl ?_
  refine V_eqT (tgt := 200) hc dL_law_195 (by decide) (by rw [hpo, e1]) ?_
  refine V_iload hc dL_law_200 1 rfl ?_
  refine V_if_ne (X := True) (Y := r = 0) (tgt := 217) hc dL_law_202 (by decide) ⟨by omega, fun _ => trivial, fun h => by omega⟩ (fun _ => ?_) (fun hr0 => ?_)
  · skip
    refine V_goto (tgt := 1651) hc dL_law_217 (by decide) ?_
    refine V_lv [2, 3, 4, 5, 6] [(0, .ref b), (1, .ref hB), (2, .ref hM), (3, .ref oA), (4, .int (iI i))] rfl ?_
    exact V_widen (by omega) (by omega) (hK σ1 u2 C1 f1 hCW1 hR2 hI1)
  · skip
    refine V_aload_n hc dL_law_205 5 rfl ?_
    refine V_iconst hc dL_law_206 ?_
    refine V_lald hc 0 rfl dL_law_207 ?_
    refine V_iload hc dL_law_208 0 rfl ?_
    refine V_i2l hc dL_law_210 ?_
    refine V_lcmpT hc dL_law_211 ((hout hr0).trans (by rw [e3 hr0]; rfl)) ?_
    refine V_if_eq (X := True) (Y := False) (tgt := 217) hc dL_law_212 (by decide) ⟨by decide, fun _ => trivial, fun h => h rfl⟩ (fun _ => ?_) (fun h => h.elim)
    refine V_goto (tgt := 1651) hc dL_law_217 (by decide) ?_
    refine V_lv [2, 3, 4, 5, 6] [(0, .ref b), (1, .ref hB), (2, .ref hM), (3, .ref oA), (4, .int (iI i))] rfl ?_
    exact V_widen (by omega) (by omega) (hK σ1 u2 C1 f1 hCW1 hR2 hI1)
set_option maxHeartbeats 4000000 in
set_option maxRecDepth 100000 in
theorem case_remove (hc : Cx p room_1 s m args meth c D t A 9 cL_law wsL_law RL) (hG : Gx s) (hl0 : l.stackTraces = false) {L : Nat} {xs : Nat → Int32} {b : Nat} (hX : va_X b L xs s s.heap) (hbl : b < s.heap.size) (hbA : ¬ A b) (hL : L ≤ 2048) {hB hM oA : Nat} {a : Nat → Nat} {u : Nat → Nat → Int} {σ : aW} {B : Int} {f0 : Nat → Int64} {wC : va_W} (hCW : CW t hB wC σ) (hR : MREL u σ) (hI : iv B σ) (hb : B ≤ 1000000) {i : Int} (hi : 0 ≤ i ∧ i + 4 ≤ (L : Int)) (hfit : cells + 2 ≤ room_1.cells ∧ slots + 12 ≤ room_1.slots)
    (hK : ∀ (σ' : aW) (u' : Nat → Nat → Int) (wC' : va_W) (f' : Nat → Int64), CW t hB wC' σ' → MREL u' σ' → iv (B + 248) σ' → V p l e room_1 s m args below meth c D A 9 (cells + 2) (slots + 12) Q 1651 [(0, .ref b), (1, .ref hB), (2, .ref hM), (3, .ref oA), (4, .int (iI i))] [] ([aJ t oA 1 f'] ++ (LM t hM a u' ++ wC'))) : V p l e room_1 s m args below meth c D A 9 cells slots Q 220 [(0, .ref b), (1, .ref hB), (2, .ref hM), (3, .ref oA), (4, .int (iI i))] [] ([aJ t oA 1 f0] ++ (LM t hM a u ++ wC)) := by
  refine V_aload_n hc dL_law_220 1 rfl ?_
  refine V_aload_n hc dL_law_221 0 rfl ?_
  refine V_iload hc dL_law_222 4 rfl ?_
  refine V_iconst hc dL_law_224 ?_
  refine V_iadd hc dL_law_225 ?_
  refine V_sld hc hX hbl hbA (by omega) hL dL_law_226 ?_
  refine V_aload_n hc dL_law_227 3 rfl ?_
  refine V_callW (As := [.ref hB, .int (iI ((xs (i + 1).toNat).toInt)), .ref oA]) (hh := [(0, 9, 12, 13)]) hc hG (pL1 _ _ _) (cls_remove hl0 f0 hCW hI (inR_x _)) rfl gL_law_L_remove rfl ⟨rfl, rfl⟩ ok_L_remove ⟨Nat.le_of_ble_eq_true rfl, Nat.le_of_ble_eq_true rfl⟩ (Nat.le_of_ble_eq_true rfl) dL_law_228 ⟨by omega, by omega⟩ (fun r w hpo => ?_)
  obtain ⟨v, σ1, hrl, hCW1, hout⟩ := hpo
  obtain ⟨C1, f1⟩ := w
  have hrg := rl_rg hrl rg_remove
  have hI1 : iv (B + 248) σ1 := iv_rl hI (fun v s h => iv_remove hI h) hrl
  refine V_istore hc dL_law_231 [(5, .int (iI r)), (0, .ref b), (1, .ref hB), (2, .ref hM), (3, .ref oA), (4, .int (iI i))] (Nat.le_of_ble_eq_true rfl) rfl ?_
  refine V_aload_n hc dL_law_233 3 rfl ?_
  refine V_aload_n hc dL_law_234 1 rfl ?_
  refine V_iload hc dL_law_235 5 rfl ?_
  refine V_iconst hc dL_law_237 ?_
  refine V_iadd hc dL_law_238 ?_
  refine V_sld hc hX hbl hbA (by omega) hL dL_law_239 ?_
  refine V_callVI (As := [.int (iI ((xs (i + 1).toNat).toInt))]) (wc := LM t hM a u) (wr := C1 ++ [aJ t oA 1 f1]) hc List.perm_append_comm rfl rfl (mdl_remove hR hI hb (inR_x _)) rfl gL_law_X5_remove rfl ⟨rfl, rfl⟩ ok_X5_remove ⟨Nat.le_of_ble_eq_true rfl, Nat.le_of_ble_eq_true rfl⟩ (Nat.le_of_ble_eq_true rfl) dL_law_240 ⟨by omega, by omega⟩ (fun r2 u2 hpo => ?_)
  obtain ⟨σ2, hrl2, hR2⟩ := hpo
  obtain ⟨e1, e2, e3⟩ := det_remove hrl hrl2
  subst e2
  refine V_istore hc dL_law_243 [(6, .int (iI r2)), (5, .int (iI r)), (0, .ref b), (1, .ref hB), (2, .ref hM), (3, .ref oA), (4, .int (iI i))] (Nat.le_of_ble_eq_true rfl) rfl ?_
  refine V_aload_n hc dL_law_245 4 rfl ?_
  refine V_callVI (As := []) (wc := LM t hM a u2) (wr := C1 ++ [aJ t oA 1 f1]) hc (List.Perm.refl _) rfl rfl mdl_thrown rfl gL_law_X5_thrown rfl ⟨rfl, rfl⟩ ok_X5_thrown ⟨Nat.le_of_ble_eq_true rfl, Nat.le_of_ble_eq_true rfl⟩ (Nat.le_of_ble_eq_true rfl) dL_law_246 ⟨by omega, by omega⟩ (fun r3 u3 hpo => ?_)
  refine V_pm (ws1 := [aJ t oA 1 f1] ++ (LM t hM a u2 ++ C1)) (pL2 _ _ _) ?_
  refine V_iload hc dL_law_249 1 rfl ?_
  refine V_eqT (tgt := 256) hc dL_law_251 (by decide) (by rw [hpo, e1]) ?_
  refine V_iload hc dL_law_256 1 rfl ?_
  refine V_if_ne (X := True) (Y := r = 0) (tgt := 273) hc dL_law_258 (by decide) ⟨by omega, fun _ => trivial, fun h => by omega⟩ (fun _ => ?_) (fun hr0 => ?_)
  · skip
    refine V_goto (tgt := 1651) hc dL_law_273 (by decide) ?_
    refine V_lv [2, 3, 4, 5, 6] [(0, .ref b), (1, .ref hB), (2, .ref hM), (3, .ref oA), (4, .int (iI i))] rfl ?_
    exact V_widen (by omega) (by omega) (hK σ1 u2 C1 f1 hCW1 hR2 hI1)
  · skip
    refine V_aload_n hc dL_law_261 5 rfl ?_
    refine V_iconst hc dL_law_262 ?_
    refine V_lald hc 0 rfl dL_law_263 ?_
    refine V_iload hc dL_law_264 0 rfl ?_
    refine V_i2l hc dL_law_266 ?_
    refine V_lcmpT hc dL_law_267 ((hout hr0).trans (by rw [e3 hr0]; rfl)) ?_
    refine V_if_eq (X := True) (Y := False) (tgt := 273) hc dL_law_268 (by decide) ⟨by decide, fun _ => trivial, fun h => h rfl⟩ (fun _ => ?_) (fun h => h.elim)
    refine V_goto (tgt := 1651) hc dL_law_273 (by decide) ?_
    refine V_lv [2, 3, 4, 5, 6] [(0, .ref b), (1, .ref hB), (2, .ref hM), (3, .ref oA), (4, .int (iI i))] rfl ?_
    exact V_widen (by omega) (by omega) (hK σ1 u2 C1 f1 hCW1 hR2 hI1)
set_option maxHeartbeats 4000000 in
set_option maxRecDepth 100000 in
theorem case_idle (hc : Cx p room_1 s m args meth c D t A 9 cL_law wsL_law RL) (hG : Gx s) (hl0 : l.stackTraces = false) {L : Nat} {xs : Nat → Int32} {b : Nat} (hX : va_X b L xs s s.heap) (hbl : b < s.heap.size) (hbA : ¬ A b) (hL : L ≤ 2048) {hB hM oA : Nat} {a : Nat → Nat} {u : Nat → Nat → Int} {σ : aW} {B : Int} {f0 : Nat → Int64} {wC : va_W} (hCW : CW t hB wC σ) (hR : MREL u σ) (hI : iv B σ) (hb : B ≤ 1000000) {i : Int} (hi : 0 ≤ i ∧ i + 4 ≤ (L : Int)) (hfit : cells + 2 ≤ room_1.cells ∧ slots + 12 ≤ room_1.slots)
    (hK : ∀ (σ' : aW) (u' : Nat → Nat → Int) (wC' : va_W) (f' : Nat → Int64), CW t hB wC' σ' → MREL u' σ' → iv (B + 248) σ' → V p l e room_1 s m args below meth c D A 9 (cells + 2) (slots + 12) Q 1651 [(0, .ref b), (1, .ref hB), (2, .ref hM), (3, .ref oA), (4, .int (iI i))] [] ([aJ t oA 1 f'] ++ (LM t hM a u' ++ wC'))) : V p l e room_1 s m args below meth c D A 9 cells slots Q 276 [(0, .ref b), (1, .ref hB), (2, .ref hM), (3, .ref oA), (4, .int (iI i))] [] ([aJ t oA 1 f0] ++ (LM t hM a u ++ wC)) := by
  obtain ⟨wc, wr, fs, T, W1, post, hp, hrc, hM1, hpost⟩ := cls_idle (l := l) (D := D) hCW hI
  refine V_aload_n hc dL_law_276 1 rfl ?_
  refine V_callVI (As := []) (wc := wc) (wr := wr ++ ([aJ t oA 1 f0] ++ LM t hM a u)) hc (pL3 hp) hrc rfl hM1 rfl gL_law_X4_idle rfl ⟨rfl, rfl⟩ ok_X4_idle ⟨Nat.le_of_ble_eq_true rfl, Nat.le_of_ble_eq_true rfl⟩ (Nat.le_of_ble_eq_true rfl) dL_law_277 ⟨by omega, by omega⟩ (fun r w hpo => ?_)
  obtain ⟨σ1, hrl, hCW1⟩ := hpost r w hpo
  have hI1 : iv (B + 248) σ1 := iv_rl hI (fun v s h => iv_idle hI h) hrl
  refine V_aload_n hc dL_law_280 2 rfl ?_
  refine V_callVI (As := []) (wc := LM t hM a u) (wr := [aJ t oA 1 f0] ++ (W1 w ++ wr)) hc (pL4 _ _ _ _) rfl rfl (mdl_idle hR hI hb) rfl gL_law_X5_idle rfl ⟨rfl, rfl⟩ ok_X5_idle ⟨Nat.le_of_ble_eq_true rfl, Nat.le_of_ble_eq_true rfl⟩ (Nat.le_of_ble_eq_true rfl) dL_law_281 ⟨by omega, by omega⟩ (fun r2 u2 hpo2 => ?_)
  obtain ⟨σ2, hrl2, hR2⟩ := hpo2
  obtain ⟨e1, e2, e3⟩ := det_idle hrl hrl2
  subst e2
  refine V_eqT (tgt := 1651) hc dL_law_284 (by decide) (by rw [e3 rfl]) ?_
  refine V_pm (ws1 := [aJ t oA 1 f0] ++ (LM t hM a u2 ++ (W1 w ++ wr))) (pL5 _ _ _) ?_
  exact V_widen (by omega) (by omega) (hK σ1 u2 (W1 w ++ wr) f0 hCW1 hR2 hI1)
set_option maxHeartbeats 4000000 in
set_option maxRecDepth 100000 in
theorem case_begin (hc : Cx p room_1 s m args meth c D t A 9 cL_law wsL_law RL) (hG : Gx s) (hl0 : l.stackTraces = false) {L : Nat} {xs : Nat → Int32} {b : Nat} (hX : va_X b L xs s s.heap) (hbl : b < s.heap.size) (hbA : ¬ A b) (hL : L ≤ 2048) {hB hM oA : Nat} {a : Nat → Nat} {u : Nat → Nat → Int} {σ : aW} {B : Int} {f0 : Nat → Int64} {wC : va_W} (hCW : CW t hB wC σ) (hR : MREL u σ) (hI : iv B σ) (hb : B ≤ 1000000) {i : Int} (hi : 0 ≤ i ∧ i + 4 ≤ (L : Int)) (hfit : cells + 2 ≤ room_1.cells ∧ slots + 12 ≤ room_1.slots)
    (hK : ∀ (σ' : aW) (u' : Nat → Nat → Int) (wC' : va_W) (f' : Nat → Int64), CW t hB wC' σ' → MREL u' σ' → iv (B + 248) σ' → V p l e room_1 s m args below meth c D A 9 (cells + 2) (slots + 12) Q 1651 [(0, .ref b), (1, .ref hB), (2, .ref hM), (3, .ref oA), (4, .int (iI i))] [] ([aJ t oA 1 f'] ++ (LM t hM a u' ++ wC'))) : V p l e room_1 s m args below meth c D A 9 cells slots Q 289 [(0, .ref b), (1, .ref hB), (2, .ref hM), (3, .ref oA), (4, .int (iI i))] [] ([aJ t oA 1 f0] ++ (LM t hM a u ++ wC)) := by
  refine V_aload_n hc dL_law_289 1 rfl ?_
  refine V_aload_n hc dL_law_290 3 rfl ?_
  refine V_callW (As := [.ref hB, .ref oA]) (hh := [(0, 8, 11, 15)]) hc hG (pL1 _ _ _) (cls_begin hl0 f0 hCW hI) rfl gL_law_L_begin rfl ⟨rfl, rfl⟩ ok_L_begin ⟨Nat.le_of_ble_eq_true rfl, Nat.le_of_ble_eq_true rfl⟩ (Nat.le_of_ble_eq_true rfl) dL_law_291 ⟨by omega, by omega⟩ (fun r w hpo => ?_)
  obtain ⟨v, σ1, hrl, hCW1, hout⟩ := hpo
  obtain ⟨C1, f1⟩ := w
  have hrg := rl_rg hrl rg_begin
  have hI1 : iv (B + 248) σ1 := iv_rl hI (fun v s h => iv_begin hI h) hrl
  refine V_istore hc dL_law_294 [(5, .int (iI r)), (0, .ref b), (1, .ref hB), (2, .ref hM), (3, .ref oA), (4, .int (iI i))] (Nat.le_of_ble_eq_true rfl) rfl ?_
  refine V_aload_n hc dL_law_296 3 rfl ?_
  refine V_callVI (As := []) (wc := LM t hM a u) (wr := C1 ++ [aJ t oA 1 f1]) hc List.perm_append_comm rfl rfl (mdl_begin hR hI hb) rfl gL_law_X5_begin rfl ⟨rfl, rfl⟩ ok_X5_begin ⟨Nat.le_of_ble_eq_true rfl, Nat.le_of_ble_eq_true rfl⟩ (Nat.le_of_ble_eq_true rfl) dL_law_297 ⟨by omega, by omega⟩ (fun r2 u2 hpo => ?_)
  obtain ⟨σ2, hrl2, hR2⟩ := hpo
  obtain ⟨e1, e2, e3⟩ := det_begin hrl hrl2
  subst e2
  refine V_istore hc dL_law_300 [(6, .int (iI r2)), (5, .int (iI r)), (0, .ref b), (1, .ref hB), (2, .ref hM), (3, .ref oA), (4, .int (iI i))] (Nat.le_of_ble_eq_true rfl) rfl ?_
  refine V_aload_n hc dL_law_302 4 rfl ?_
  refine V_callVI (As := []) (wc := LM t hM a u2) (wr := C1 ++ [aJ t oA 1 f1]) hc (List.Perm.refl _) rfl rfl mdl_thrown rfl gL_law_X5_thrown rfl ⟨rfl, rfl⟩ ok_X5_thrown ⟨Nat.le_of_ble_eq_true rfl, Nat.le_of_ble_eq_true rfl⟩ (Nat.le_of_ble_eq_true rfl) dL_law_303 ⟨by omega, by omega⟩ (fun r3 u3 hpo => ?_)
  refine V_pm (ws1 := [aJ t oA 1 f1] ++ (LM t hM a u2 ++ C1)) (pL2 _ _ _) ?_
  refine V_iload hc dL_law_306 1 rfl ?_
  refine V_eqT (tgt := 313) hc dL_law_308 (by decide) (by rw [hpo, e1]) ?_
  refine V_iload hc dL_law_313 1 rfl ?_
  refine V_if_ne (X := True) (Y := r = 0) (tgt := 330) hc dL_law_315 (by decide) ⟨by omega, fun _ => trivial, fun h => by omega⟩ (fun _ => ?_) (fun hr0 => ?_)
  · skip
    refine V_goto (tgt := 1651) hc dL_law_330 (by decide) ?_
    refine V_lv [2, 3, 4, 5, 6] [(0, .ref b), (1, .ref hB), (2, .ref hM), (3, .ref oA), (4, .int (iI i))] rfl ?_
    exact V_widen (by omega) (by omega) (hK σ1 u2 C1 f1 hCW1 hR2 hI1)
  · skip
    refine V_aload_n hc dL_law_318 5 rfl ?_
    refine V_iconst hc dL_law_319 ?_
    refine V_lald hc 0 rfl dL_law_320 ?_
    refine V_iload hc dL_law_321 0 rfl ?_
    refine V_i2l hc dL_law_323 ?_
    refine V_lcmpT hc dL_law_324 ((hout hr0).trans (by rw [e3 hr0]; rfl)) ?_
    refine V_if_eq (X := True) (Y := False) (tgt := 330) hc dL_law_325 (by decide) ⟨by decide, fun _ => trivial, fun h => h rfl⟩ (fun _ => ?_) (fun h => h.elim)
    refine V_goto (tgt := 1651) hc dL_law_330 (by decide) ?_
    refine V_lv [2, 3, 4, 5, 6] [(0, .ref b), (1, .ref hB), (2, .ref hM), (3, .ref oA), (4, .int (iI i))] rfl ?_
    exact V_widen (by omega) (by omega) (hK σ1 u2 C1 f1 hCW1 hR2 hI1)
set_option maxHeartbeats 4000000 in
set_option maxRecDepth 100000 in
theorem case_abandon (hc : Cx p room_1 s m args meth c D t A 9 cL_law wsL_law RL) (hG : Gx s) (hl0 : l.stackTraces = false) {L : Nat} {xs : Nat → Int32} {b : Nat} (hX : va_X b L xs s s.heap) (hbl : b < s.heap.size) (hbA : ¬ A b) (hL : L ≤ 2048) {hB hM oA : Nat} {a : Nat → Nat} {u : Nat → Nat → Int} {σ : aW} {B : Int} {f0 : Nat → Int64} {wC : va_W} (hCW : CW t hB wC σ) (hR : MREL u σ) (hI : iv B σ) (hb : B ≤ 1000000) {i : Int} (hi : 0 ≤ i ∧ i + 4 ≤ (L : Int)) (hfit : cells + 2 ≤ room_1.cells ∧ slots + 12 ≤ room_1.slots)
    (hK : ∀ (σ' : aW) (u' : Nat → Nat → Int) (wC' : va_W) (f' : Nat → Int64), CW t hB wC' σ' → MREL u' σ' → iv (B + 248) σ' → V p l e room_1 s m args below meth c D A 9 (cells + 2) (slots + 12) Q 1651 [(0, .ref b), (1, .ref hB), (2, .ref hM), (3, .ref oA), (4, .int (iI i))] [] ([aJ t oA 1 f'] ++ (LM t hM a u' ++ wC'))) : V p l e room_1 s m args below meth c D A 9 cells slots Q 333 [(0, .ref b), (1, .ref hB), (2, .ref hM), (3, .ref oA), (4, .int (iI i))] [] ([aJ t oA 1 f0] ++ (LM t hM a u ++ wC)) := by
  refine V_aload_n hc dL_law_333 1 rfl ?_
  refine V_aload_n hc dL_law_334 3 rfl ?_
  refine V_callW (As := [.ref hB, .ref oA]) (hh := [(0, 8, 11, 15)]) hc hG (pL1 _ _ _) (cls_abandon hl0 f0 hCW hI) rfl gL_law_L_abandon rfl ⟨rfl, rfl⟩ ok_L_abandon ⟨Nat.le_of_ble_eq_true rfl, Nat.le_of_ble_eq_true rfl⟩ (Nat.le_of_ble_eq_true rfl) dL_law_335 ⟨by omega, by omega⟩ (fun r w hpo => ?_)
  obtain ⟨v, σ1, hrl, hCW1, hout⟩ := hpo
  obtain ⟨C1, f1⟩ := w
  have hrg := rl_rg hrl rg_abandon
  have hI1 : iv (B + 248) σ1 := iv_rl hI (fun v s h => iv_abandon hI h) hrl
  refine V_istore hc dL_law_338 [(5, .int (iI r)), (0, .ref b), (1, .ref hB), (2, .ref hM), (3, .ref oA), (4, .int (iI i))] (Nat.le_of_ble_eq_true rfl) rfl ?_
  refine V_aload_n hc dL_law_340 3 rfl ?_
  refine V_callVI (As := []) (wc := LM t hM a u) (wr := C1 ++ [aJ t oA 1 f1]) hc List.perm_append_comm rfl rfl (mdl_abandon hR hI hb) rfl gL_law_X5_abandon rfl ⟨rfl, rfl⟩ ok_X5_abandon ⟨Nat.le_of_ble_eq_true rfl, Nat.le_of_ble_eq_true rfl⟩ (Nat.le_of_ble_eq_true rfl) dL_law_341 ⟨by omega, by omega⟩ (fun r2 u2 hpo => ?_)
  obtain ⟨σ2, hrl2, hR2⟩ := hpo
  obtain ⟨e1, e2, e3⟩ := det_abandon hrl hrl2
  subst e2
  refine V_istore hc dL_law_344 [(6, .int (iI r2)), (5, .int (iI r)), (0, .ref b), (1, .ref hB), (2, .ref hM), (3, .ref oA), (4, .int (iI i))] (Nat.le_of_ble_eq_true rfl) rfl ?_
  refine V_aload_n hc dL_law_346 4 rfl ?_
  refine V_callVI (As := []) (wc := LM t hM a u2) (wr := C1 ++ [aJ t oA 1 f1]) hc (List.Perm.refl _) rfl rfl mdl_thrown rfl gL_law_X5_thrown rfl ⟨rfl, rfl⟩ ok_X5_thrown ⟨Nat.le_of_ble_eq_true rfl, Nat.le_of_ble_eq_true rfl⟩ (Nat.le_of_ble_eq_true rfl) dL_law_347 ⟨by omega, by omega⟩ (fun r3 u3 hpo => ?_)
  refine V_pm (ws1 := [aJ t oA 1 f1] ++ (LM t hM a u2 ++ C1)) (pL2 _ _ _) ?_
  refine V_iload hc dL_law_350 1 rfl ?_
  refine V_eqT (tgt := 357) hc dL_law_352 (by decide) (by rw [hpo, e1]) ?_
  refine V_iload hc dL_law_357 1 rfl ?_
  refine V_if_ne (X := True) (Y := r = 0) (tgt := 374) hc dL_law_359 (by decide) ⟨by omega, fun _ => trivial, fun h => by omega⟩ (fun _ => ?_) (fun hr0 => ?_)
  · skip
    refine V_goto (tgt := 1651) hc dL_law_374 (by decide) ?_
    refine V_lv [2, 3, 4, 5, 6] [(0, .ref b), (1, .ref hB), (2, .ref hM), (3, .ref oA), (4, .int (iI i))] rfl ?_
    exact V_widen (by omega) (by omega) (hK σ1 u2 C1 f1 hCW1 hR2 hI1)
  · skip
    refine V_aload_n hc dL_law_362 5 rfl ?_
    refine V_iconst hc dL_law_363 ?_
    refine V_lald hc 0 rfl dL_law_364 ?_
    refine V_iload hc dL_law_365 0 rfl ?_
    refine V_i2l hc dL_law_367 ?_
    refine V_lcmpT hc dL_law_368 ((hout hr0).trans (by rw [e3 hr0]; rfl)) ?_
    refine V_if_eq (X := True) (Y := False) (tgt := 374) hc dL_law_369 (by decide) ⟨by decide, fun _ => trivial, fun h => h rfl⟩ (fun _ => ?_) (fun h => h.elim)
    refine V_goto (tgt := 1651) hc dL_law_374 (by decide) ?_
    refine V_lv [2, 3, 4, 5, 6] [(0, .ref b), (1, .ref hB), (2, .ref hM), (3, .ref oA), (4, .int (iI i))] rfl ?_
    exact V_widen (by omega) (by omega) (hK σ1 u2 C1 f1 hCW1 hR2 hI1)
set_option maxHeartbeats 4000000 in
set_option maxRecDepth 100000 in
theorem case_set (hc : Cx p room_1 s m args meth c D t A 9 cL_law wsL_law RL) (hG : Gx s) (hl0 : l.stackTraces = false) {L : Nat} {xs : Nat → Int32} {b : Nat} (hX : va_X b L xs s s.heap) (hbl : b < s.heap.size) (hbA : ¬ A b) (hL : L ≤ 2048) {hB hM oA : Nat} {a : Nat → Nat} {u : Nat → Nat → Int} {σ : aW} {B : Int} {f0 : Nat → Int64} {wC : va_W} (hCW : CW t hB wC σ) (hR : MREL u σ) (hI : iv B σ) (hb : B ≤ 1000000) {i : Int} (hi : 0 ≤ i ∧ i + 4 ≤ (L : Int)) (hfit : cells + 2 ≤ room_1.cells ∧ slots + 12 ≤ room_1.slots)
    (hK : ∀ (σ' : aW) (u' : Nat → Nat → Int) (wC' : va_W) (f' : Nat → Int64), CW t hB wC' σ' → MREL u' σ' → iv (B + 248) σ' → V p l e room_1 s m args below meth c D A 9 (cells + 2) (slots + 12) Q 1651 [(0, .ref b), (1, .ref hB), (2, .ref hM), (3, .ref oA), (4, .int (iI i))] [] ([aJ t oA 1 f'] ++ (LM t hM a u' ++ wC'))) : V p l e room_1 s m args below meth c D A 9 cells slots Q 377 [(0, .ref b), (1, .ref hB), (2, .ref hM), (3, .ref oA), (4, .int (iI i))] [] ([aJ t oA 1 f0] ++ (LM t hM a u ++ wC)) := by
  refine V_aload_n hc dL_law_377 1 rfl ?_
  refine V_aload_n hc dL_law_378 0 rfl ?_
  refine V_iload hc dL_law_379 4 rfl ?_
  refine V_iconst hc dL_law_381 ?_
  refine V_iadd hc dL_law_382 ?_
  refine V_sld hc hX hbl hbA (by omega) hL dL_law_383 ?_
  refine V_aload_n hc dL_law_384 0 rfl ?_
  refine V_iload hc dL_law_385 4 rfl ?_
  refine V_iconst hc dL_law_387 ?_
  refine V_iadd hc dL_law_388 ?_
  refine V_sld hc hX hbl hbA (by omega) hL dL_law_389 ?_
  refine V_aload_n hc dL_law_390 3 rfl ?_
  refine V_callW (As := [.ref hB, .int (iI ((xs (i + 1).toNat).toInt)), .int (iI ((xs (i + 2).toNat).toInt)), .ref oA]) (hh := [(0, 10, 13, 31), (0, 10, 17, 13)]) hc hG (pL1 _ _ _) (cls_set hl0 f0 hCW hI (inR_x _) (inR_x _)) rfl gL_law_L_set rfl ⟨rfl, rfl⟩ ok_L_set ⟨Nat.le_of_ble_eq_true rfl, Nat.le_of_ble_eq_true rfl⟩ (Nat.le_of_ble_eq_true rfl) dL_law_391 ⟨by omega, by omega⟩ (fun r w hpo => ?_)
  obtain ⟨v, σ1, hrl, hCW1, hout⟩ := hpo
  obtain ⟨C1, f1⟩ := w
  have hrg := rl_rg hrl rg_set
  have hI1 : iv (B + 248) σ1 := iv_rl hI (fun v s h => iv_set hI h) hrl
  refine V_istore hc dL_law_394 [(5, .int (iI r)), (0, .ref b), (1, .ref hB), (2, .ref hM), (3, .ref oA), (4, .int (iI i))] (Nat.le_of_ble_eq_true rfl) rfl ?_
  refine V_aload_n hc dL_law_396 3 rfl ?_
  refine V_aload_n hc dL_law_397 1 rfl ?_
  refine V_iload hc dL_law_398 5 rfl ?_
  refine V_iconst hc dL_law_400 ?_
  refine V_iadd hc dL_law_401 ?_
  refine V_sld hc hX hbl hbA (by omega) hL dL_law_402 ?_
  refine V_aload_n hc dL_law_403 1 rfl ?_
  refine V_iload hc dL_law_404 5 rfl ?_
  refine V_iconst hc dL_law_406 ?_
  refine V_iadd hc dL_law_407 ?_
  refine V_sld hc hX hbl hbA (by omega) hL dL_law_408 ?_
  refine V_callVI (As := [.int (iI ((xs (i + 1).toNat).toInt)), .int (iI ((xs (i + 2).toNat).toInt))]) (wc := LM t hM a u) (wr := C1 ++ [aJ t oA 1 f1]) hc List.perm_append_comm rfl rfl (mdl_set hR hI hb (inR_x _) (inR_x _)) rfl gL_law_X5_set rfl ⟨rfl, rfl⟩ ok_X5_set ⟨Nat.le_of_ble_eq_true rfl, Nat.le_of_ble_eq_true rfl⟩ (Nat.le_of_ble_eq_true rfl) dL_law_409 ⟨by omega, by omega⟩ (fun r2 u2 hpo => ?_)
  obtain ⟨σ2, hrl2, hR2⟩ := hpo
  obtain ⟨e1, e2, e3⟩ := det_set hrl hrl2
  subst e2
  refine V_istore hc dL_law_412 [(6, .int (iI r2)), (5, .int (iI r)), (0, .ref b), (1, .ref hB), (2, .ref hM), (3, .ref oA), (4, .int (iI i))] (Nat.le_of_ble_eq_true rfl) rfl ?_
  refine V_aload_n hc dL_law_414 4 rfl ?_
  refine V_callVI (As := []) (wc := LM t hM a u2) (wr := C1 ++ [aJ t oA 1 f1]) hc (List.Perm.refl _) rfl rfl mdl_thrown rfl gL_law_X5_thrown rfl ⟨rfl, rfl⟩ ok_X5_thrown ⟨Nat.le_of_ble_eq_true rfl, Nat.le_of_ble_eq_true rfl⟩ (Nat.le_of_ble_eq_true rfl) dL_law_415 ⟨by omega, by omega⟩ (fun r3 u3 hpo => ?_)
  refine V_pm (ws1 := [aJ t oA 1 f1] ++ (LM t hM a u2 ++ C1)) (pL2 _ _ _) ?_
  refine V_iload hc dL_law_418 1 rfl ?_
  refine V_eqT (tgt := 425) hc dL_law_420 (by decide) (by rw [hpo, e1]) ?_
  refine V_iload hc dL_law_425 1 rfl ?_
  refine V_if_ne (X := True) (Y := r = 0) (tgt := 442) hc dL_law_427 (by decide) ⟨by omega, fun _ => trivial, fun h => by omega⟩ (fun _ => ?_) (fun hr0 => ?_)
  · skip
    refine V_goto (tgt := 1651) hc dL_law_442 (by decide) ?_
    refine V_lv [2, 3, 4, 5, 6] [(0, .ref b), (1, .ref hB), (2, .ref hM), (3, .ref oA), (4, .int (iI i))] rfl ?_
    exact V_widen (by omega) (by omega) (hK σ1 u2 C1 f1 hCW1 hR2 hI1)
  · skip
    refine V_aload_n hc dL_law_430 5 rfl ?_
    refine V_iconst hc dL_law_431 ?_
    refine V_lald hc 0 rfl dL_law_432 ?_
    refine V_iload hc dL_law_433 0 rfl ?_
    refine V_i2l hc dL_law_435 ?_
    refine V_lcmpT hc dL_law_436 ((hout hr0).trans (by rw [e3 hr0]; rfl)) ?_
    refine V_if_eq (X := True) (Y := False) (tgt := 442) hc dL_law_437 (by decide) ⟨by decide, fun _ => trivial, fun h => h rfl⟩ (fun _ => ?_) (fun h => h.elim)
    refine V_goto (tgt := 1651) hc dL_law_442 (by decide) ?_
    refine V_lv [2, 3, 4, 5, 6] [(0, .ref b), (1, .ref hB), (2, .ref hM), (3, .ref oA), (4, .int (iI i))] rfl ?_
    exact V_widen (by omega) (by omega) (hK σ1 u2 C1 f1 hCW1 hR2 hI1)
set_option maxHeartbeats 4000000 in
set_option maxRecDepth 100000 in
theorem case_append (hc : Cx p room_1 s m args meth c D t A 9 cL_law wsL_law RL) (hG : Gx s) (hl0 : l.stackTraces = false) {L : Nat} {xs : Nat → Int32} {b : Nat} (hX : va_X b L xs s s.heap) (hbl : b < s.heap.size) (hbA : ¬ A b) (hL : L ≤ 2048) {hB hM oA : Nat} {a : Nat → Nat} {u : Nat → Nat → Int} {σ : aW} {B : Int} {f0 : Nat → Int64} {wC : va_W} (hCW : CW t hB wC σ) (hR : MREL u σ) (hI : iv B σ) (hb : B ≤ 1000000) {i : Int} (hi : 0 ≤ i ∧ i + 4 ≤ (L : Int)) (hfit : cells + 2 ≤ room_1.cells ∧ slots + 12 ≤ room_1.slots)
    (hK : ∀ (σ' : aW) (u' : Nat → Nat → Int) (wC' : va_W) (f' : Nat → Int64), CW t hB wC' σ' → MREL u' σ' → iv (B + 248) σ' → V p l e room_1 s m args below meth c D A 9 (cells + 2) (slots + 12) Q 1651 [(0, .ref b), (1, .ref hB), (2, .ref hM), (3, .ref oA), (4, .int (iI i))] [] ([aJ t oA 1 f'] ++ (LM t hM a u' ++ wC'))) : V p l e room_1 s m args below meth c D A 9 cells slots Q 445 [(0, .ref b), (1, .ref hB), (2, .ref hM), (3, .ref oA), (4, .int (iI i))] [] ([aJ t oA 1 f0] ++ (LM t hM a u ++ wC)) := by
  refine V_aload_n hc dL_law_445 1 rfl ?_
  refine V_aload_n hc dL_law_446 0 rfl ?_
  refine V_iload hc dL_law_447 4 rfl ?_
  refine V_iconst hc dL_law_449 ?_
  refine V_iadd hc dL_law_450 ?_
  refine V_sld hc hX hbl hbA (by omega) hL dL_law_451 ?_
  refine V_aload_n hc dL_law_452 3 rfl ?_
  refine V_callW (As := [.ref hB, .int (iI ((xs (i + 1).toNat).toInt)), .ref oA]) (hh := [(0, 9, 12, 13), (0, 9, 15, 15)]) hc hG (pL1 _ _ _) (cls_append hl0 f0 hCW hI (inR_x _)) rfl gL_law_L_append rfl ⟨rfl, rfl⟩ ok_L_append ⟨Nat.le_of_ble_eq_true rfl, Nat.le_of_ble_eq_true rfl⟩ (Nat.le_of_ble_eq_true rfl) dL_law_453 ⟨by omega, by omega⟩ (fun r w hpo => ?_)
  obtain ⟨v, σ1, hrl, hCW1, hout⟩ := hpo
  obtain ⟨C1, f1⟩ := w
  have hrg := rl_rg hrl rg_append
  have hI1 : iv (B + 248) σ1 := iv_rl hI (fun v s h => iv_append hI h) hrl
  refine V_istore hc dL_law_456 [(5, .int (iI r)), (0, .ref b), (1, .ref hB), (2, .ref hM), (3, .ref oA), (4, .int (iI i))] (Nat.le_of_ble_eq_true rfl) rfl ?_
  refine V_aload_n hc dL_law_458 3 rfl ?_
  refine V_aload_n hc dL_law_459 1 rfl ?_
  refine V_iload hc dL_law_460 5 rfl ?_
  refine V_iconst hc dL_law_462 ?_
  refine V_iadd hc dL_law_463 ?_
  refine V_sld hc hX hbl hbA (by omega) hL dL_law_464 ?_
  refine V_callVI (As := [.int (iI ((xs (i + 1).toNat).toInt))]) (wc := LM t hM a u) (wr := C1 ++ [aJ t oA 1 f1]) hc List.perm_append_comm rfl rfl (mdl_append hR hI hb (inR_x _)) rfl gL_law_X5_append rfl ⟨rfl, rfl⟩ ok_X5_append ⟨Nat.le_of_ble_eq_true rfl, Nat.le_of_ble_eq_true rfl⟩ (Nat.le_of_ble_eq_true rfl) dL_law_465 ⟨by omega, by omega⟩ (fun r2 u2 hpo => ?_)
  obtain ⟨σ2, hrl2, hR2⟩ := hpo
  obtain ⟨e1, e2, e3⟩ := det_append hrl hrl2
  subst e2
  refine V_istore hc dL_law_468 [(6, .int (iI r2)), (5, .int (iI r)), (0, .ref b), (1, .ref hB), (2, .ref hM), (3, .ref oA), (4, .int (iI i))] (Nat.le_of_ble_eq_true rfl) rfl ?_
  refine V_aload_n hc dL_law_470 4 rfl ?_
  refine V_callVI (As := []) (wc := LM t hM a u2) (wr := C1 ++ [aJ t oA 1 f1]) hc (List.Perm.refl _) rfl rfl mdl_thrown rfl gL_law_X5_thrown rfl ⟨rfl, rfl⟩ ok_X5_thrown ⟨Nat.le_of_ble_eq_true rfl, Nat.le_of_ble_eq_true rfl⟩ (Nat.le_of_ble_eq_true rfl) dL_law_471 ⟨by omega, by omega⟩ (fun r3 u3 hpo => ?_)
  refine V_pm (ws1 := [aJ t oA 1 f1] ++ (LM t hM a u2 ++ C1)) (pL2 _ _ _) ?_
  refine V_iload hc dL_law_474 1 rfl ?_
  refine V_eqT (tgt := 481) hc dL_law_476 (by decide) (by rw [hpo, e1]) ?_
  refine V_iload hc dL_law_481 1 rfl ?_
  refine V_if_ne (X := True) (Y := r = 0) (tgt := 498) hc dL_law_483 (by decide) ⟨by omega, fun _ => trivial, fun h => by omega⟩ (fun _ => ?_) (fun hr0 => ?_)
  · skip
    refine V_goto (tgt := 1651) hc dL_law_498 (by decide) ?_
    refine V_lv [2, 3, 4, 5, 6] [(0, .ref b), (1, .ref hB), (2, .ref hM), (3, .ref oA), (4, .int (iI i))] rfl ?_
    exact V_widen (by omega) (by omega) (hK σ1 u2 C1 f1 hCW1 hR2 hI1)
  · skip
    refine V_aload_n hc dL_law_486 5 rfl ?_
    refine V_iconst hc dL_law_487 ?_
    refine V_lald hc 0 rfl dL_law_488 ?_
    refine V_iload hc dL_law_489 0 rfl ?_
    refine V_i2l hc dL_law_491 ?_
    refine V_lcmpT hc dL_law_492 ((hout hr0).trans (by rw [e3 hr0]; rfl)) ?_
    refine V_if_eq (X := True) (Y := False) (tgt := 498) hc dL_law_493 (by decide) ⟨by decide, fun _ => trivial, fun h => h rfl⟩ (fun _ => ?_) (fun h => h.elim)
    refine V_goto (tgt := 1651) hc dL_law_498 (by decide) ?_
    refine V_lv [2, 3, 4, 5, 6] [(0, .ref b), (1, .ref hB), (2, .ref hM), (3, .ref oA), (4, .int (iI i))] rfl ?_
    exact V_widen (by omega) (by omega) (hK σ1 u2 C1 f1 hCW1 hR2 hI1)
set_option maxHeartbeats 4000000 in
set_option maxRecDepth 100000 in
theorem case_clearBuffer (hc : Cx p room_1 s m args meth c D t A 9 cL_law wsL_law RL) (hG : Gx s) (hl0 : l.stackTraces = false) {L : Nat} {xs : Nat → Int32} {b : Nat} (hX : va_X b L xs s s.heap) (hbl : b < s.heap.size) (hbA : ¬ A b) (hL : L ≤ 2048) {hB hM oA : Nat} {a : Nat → Nat} {u : Nat → Nat → Int} {σ : aW} {B : Int} {f0 : Nat → Int64} {wC : va_W} (hCW : CW t hB wC σ) (hR : MREL u σ) (hI : iv B σ) (hb : B ≤ 1000000) {i : Int} (hi : 0 ≤ i ∧ i + 4 ≤ (L : Int)) (hfit : cells + 2 ≤ room_1.cells ∧ slots + 12 ≤ room_1.slots)
    (hK : ∀ (σ' : aW) (u' : Nat → Nat → Int) (wC' : va_W) (f' : Nat → Int64), CW t hB wC' σ' → MREL u' σ' → iv (B + 248) σ' → V p l e room_1 s m args below meth c D A 9 (cells + 2) (slots + 12) Q 1651 [(0, .ref b), (1, .ref hB), (2, .ref hM), (3, .ref oA), (4, .int (iI i))] [] ([aJ t oA 1 f'] ++ (LM t hM a u' ++ wC'))) : V p l e room_1 s m args below meth c D A 9 cells slots Q 501 [(0, .ref b), (1, .ref hB), (2, .ref hM), (3, .ref oA), (4, .int (iI i))] [] ([aJ t oA 1 f0] ++ (LM t hM a u ++ wC)) := by
  obtain ⟨wc, wr, fs, T, W1, post, hp, hrc, hM1, hpost⟩ := cls_clearBuffer (l := l) (D := D) hCW hI
  refine V_aload_n hc dL_law_501 1 rfl ?_
  refine V_callVI (As := []) (wc := wc) (wr := wr ++ ([aJ t oA 1 f0] ++ LM t hM a u)) hc (pL3 hp) hrc rfl hM1 rfl gL_law_X4_clearBuffer rfl ⟨rfl, rfl⟩ ok_X4_clearBuffer ⟨Nat.le_of_ble_eq_true rfl, Nat.le_of_ble_eq_true rfl⟩ (Nat.le_of_ble_eq_true rfl) dL_law_502 ⟨by omega, by omega⟩ (fun r w hpo => ?_)
  obtain ⟨σ1, hrl, hCW1⟩ := hpost r w hpo
  have hI1 : iv (B + 248) σ1 := iv_rl hI (fun v s h => iv_clearBuffer hI h) hrl
  refine V_aload_n hc dL_law_505 2 rfl ?_
  refine V_callVI (As := []) (wc := LM t hM a u) (wr := [aJ t oA 1 f0] ++ (W1 w ++ wr)) hc (pL4 _ _ _ _) rfl rfl (mdl_clearBuffer hR hI hb) rfl gL_law_X5_clearBuffer rfl ⟨rfl, rfl⟩ ok_X5_clearBuffer ⟨Nat.le_of_ble_eq_true rfl, Nat.le_of_ble_eq_true rfl⟩ (Nat.le_of_ble_eq_true rfl) dL_law_506 ⟨by omega, by omega⟩ (fun r2 u2 hpo2 => ?_)
  obtain ⟨σ2, hrl2, hR2⟩ := hpo2
  obtain ⟨e1, e2, e3⟩ := det_clearBuffer hrl hrl2
  subst e2
  refine V_eqT (tgt := 1651) hc dL_law_509 (by decide) (by rw [e3 rfl]) ?_
  refine V_pm (ws1 := [aJ t oA 1 f0] ++ (LM t hM a u2 ++ (W1 w ++ wr))) (pL5 _ _ _) ?_
  exact V_widen (by omega) (by omega) (hK σ1 u2 (W1 w ++ wr) f0 hCW1 hR2 hI1)
set_option maxHeartbeats 4000000 in
set_option maxRecDepth 100000 in
theorem case_firstError (hc : Cx p room_1 s m args meth c D t A 9 cL_law wsL_law RL) (hG : Gx s) (hl0 : l.stackTraces = false) {L : Nat} {xs : Nat → Int32} {b : Nat} (hX : va_X b L xs s s.heap) (hbl : b < s.heap.size) (hbA : ¬ A b) (hL : L ≤ 2048) {hB hM oA : Nat} {a : Nat → Nat} {u : Nat → Nat → Int} {σ : aW} {B : Int} {f0 : Nat → Int64} {wC : va_W} (hCW : CW t hB wC σ) (hR : MREL u σ) (hI : iv B σ) (hb : B ≤ 1000000) {i : Int} (hi : 0 ≤ i ∧ i + 4 ≤ (L : Int)) (hfit : cells + 2 ≤ room_1.cells ∧ slots + 12 ≤ room_1.slots)
    (hK : ∀ (σ' : aW) (u' : Nat → Nat → Int) (wC' : va_W) (f' : Nat → Int64), CW t hB wC' σ' → MREL u' σ' → iv (B + 248) σ' → V p l e room_1 s m args below meth c D A 9 (cells + 2) (slots + 12) Q 1651 [(0, .ref b), (1, .ref hB), (2, .ref hM), (3, .ref oA), (4, .int (iI i))] [] ([aJ t oA 1 f'] ++ (LM t hM a u' ++ wC'))) : V p l e room_1 s m args below meth c D A 9 cells slots Q 514 [(0, .ref b), (1, .ref hB), (2, .ref hM), (3, .ref oA), (4, .int (iI i))] [] ([aJ t oA 1 f0] ++ (LM t hM a u ++ wC)) := by
  obtain ⟨wc, wr, fs, T, W1, post, hp, hrc, hM1, hpost⟩ := cls_firstError (l := l) (D := D) hCW hI
  refine V_aload_n hc dL_law_514 1 rfl ?_
  refine V_callVI (As := []) (wc := wc) (wr := wr ++ ([aJ t oA 1 f0] ++ LM t hM a u)) hc (pL3 hp) hrc rfl hM1 rfl gL_law_X4_firstError rfl ⟨rfl, rfl⟩ ok_X4_firstError ⟨Nat.le_of_ble_eq_true rfl, Nat.le_of_ble_eq_true rfl⟩ (Nat.le_of_ble_eq_true rfl) dL_law_515 ⟨by omega, by omega⟩ (fun r w hpo => ?_)
  obtain ⟨σ1, hrl, hCW1⟩ := hpost r w hpo
  have hI1 : iv (B + 248) σ1 := iv_rl hI (fun v s h => by rw [h.2]; exact hI.mono (by omega)) hrl
  refine V_aload_n hc dL_law_518 2 rfl ?_
  refine V_callVI (As := []) (wc := LM t hM a u) (wr := [aJ t oA 1 f0] ++ (W1 w ++ wr)) hc (pL4 _ _ _ _) rfl rfl (mdl_firstError hR hI hb) rfl gL_law_X5_firstError rfl ⟨rfl, rfl⟩ ok_X5_firstError ⟨Nat.le_of_ble_eq_true rfl, Nat.le_of_ble_eq_true rfl⟩ (Nat.le_of_ble_eq_true rfl) dL_law_519 ⟨by omega, by omega⟩ (fun r2 u2 hpo2 => ?_)
  obtain ⟨σ2, hrl2, hR2⟩ := hpo2
  obtain ⟨e1, e2, e3⟩ := det_firstError hrl hrl2
  subst e2
  refine V_eqT (tgt := 1651) hc dL_law_522 (by decide) (by rw [e3 rfl]) ?_
  refine V_pm (ws1 := [aJ t oA 1 f0] ++ (LM t hM a u2 ++ (W1 w ++ wr))) (pL5 _ _ _) ?_
  exact V_widen (by omega) (by omega) (hK σ1 u2 (W1 w ++ wr) f0 hCW1 hR2 hI1)
set_option maxHeartbeats 4000000 in
set_option maxRecDepth 100000 in
theorem case_execute (hc : Cx p room_1 s m args meth c D t A 9 cL_law wsL_law RL) (hG : Gx s) (hl0 : l.stackTraces = false) {L : Nat} {xs : Nat → Int32} {b : Nat} (hX : va_X b L xs s s.heap) (hbl : b < s.heap.size) (hbA : ¬ A b) (hL : L ≤ 2048) {hB hM oA : Nat} {a : Nat → Nat} {u : Nat → Nat → Int} {σ : aW} {B : Int} {f0 : Nat → Int64} {wC : va_W} (hCW : CW t hB wC σ) (hR : MREL u σ) (hI : iv B σ) (hb : B ≤ 1000000) {i : Int} (hi : 0 ≤ i ∧ i + 4 ≤ (L : Int)) (hfit : cells + 2 ≤ room_1.cells ∧ slots + 12 ≤ room_1.slots)
    (hK : ∀ (σ' : aW) (u' : Nat → Nat → Int) (wC' : va_W) (f' : Nat → Int64), CW t hB wC' σ' → MREL u' σ' → iv (B + 248) σ' → V p l e room_1 s m args below meth c D A 9 (cells + 2) (slots + 12) Q 1651 [(0, .ref b), (1, .ref hB), (2, .ref hM), (3, .ref oA), (4, .int (iI i))] [] ([aJ t oA 1 f'] ++ (LM t hM a u' ++ wC'))) : V p l e room_1 s m args below meth c D A 9 cells slots Q 527 [(0, .ref b), (1, .ref hB), (2, .ref hM), (3, .ref oA), (4, .int (iI i))] [] ([aJ t oA 1 f0] ++ (LM t hM a u ++ wC)) := by
  refine V_aload_n hc dL_law_527 1 rfl ?_
  refine V_aload_n hc dL_law_528 3 rfl ?_
  refine V_callW (As := [.ref hB, .ref oA]) (hh := [(0, 8, 11, 13)]) hc hG (pL1 _ _ _) (cls_execute hl0 f0 hCW hI) rfl gL_law_L_execute rfl ⟨rfl, rfl⟩ ok_L_execute ⟨Nat.le_of_ble_eq_true rfl, Nat.le_of_ble_eq_true rfl⟩ (Nat.le_of_ble_eq_true rfl) dL_law_529 ⟨by omega, by omega⟩ (fun r w hpo => ?_)
  obtain ⟨v, σ1, hrl, hCW1, hout⟩ := hpo
  obtain ⟨C1, f1⟩ := w
  have hrg := rl_rg hrl rg_execute
  have hI1 : iv (B + 248) σ1 := iv_rl hI (fun v s h => iv_execute hI h) hrl
  refine V_istore hc dL_law_532 [(5, .int (iI r)), (0, .ref b), (1, .ref hB), (2, .ref hM), (3, .ref oA), (4, .int (iI i))] (Nat.le_of_ble_eq_true rfl) rfl ?_
  refine V_aload_n hc dL_law_534 3 rfl ?_
  refine V_callVI (As := []) (wc := LM t hM a u) (wr := C1 ++ [aJ t oA 1 f1]) hc List.perm_append_comm rfl rfl (mdl_execute hR hI hb) rfl gL_law_X5_execute rfl ⟨rfl, rfl⟩ ok_X5_execute ⟨Nat.le_of_ble_eq_true rfl, Nat.le_of_ble_eq_true rfl⟩ (Nat.le_of_ble_eq_true rfl) dL_law_535 ⟨by omega, by omega⟩ (fun r2 u2 hpo => ?_)
  obtain ⟨σ2, hrl2, hR2⟩ := hpo
  obtain ⟨e1, e2, e3⟩ := det_execute hrl hrl2
  subst e2
  refine V_istore hc dL_law_538 [(6, .int (iI r2)), (5, .int (iI r)), (0, .ref b), (1, .ref hB), (2, .ref hM), (3, .ref oA), (4, .int (iI i))] (Nat.le_of_ble_eq_true rfl) rfl ?_
  refine V_aload_n hc dL_law_540 4 rfl ?_
  refine V_callVI (As := []) (wc := LM t hM a u2) (wr := C1 ++ [aJ t oA 1 f1]) hc (List.Perm.refl _) rfl rfl mdl_thrown rfl gL_law_X5_thrown rfl ⟨rfl, rfl⟩ ok_X5_thrown ⟨Nat.le_of_ble_eq_true rfl, Nat.le_of_ble_eq_true rfl⟩ (Nat.le_of_ble_eq_true rfl) dL_law_541 ⟨by omega, by omega⟩ (fun r3 u3 hpo => ?_)
  refine V_pm (ws1 := [aJ t oA 1 f1] ++ (LM t hM a u2 ++ C1)) (pL2 _ _ _) ?_
  refine V_iload hc dL_law_544 1 rfl ?_
  refine V_eqT (tgt := 551) hc dL_law_546 (by decide) (by rw [hpo, e1]) ?_
  refine V_iload hc dL_law_551 1 rfl ?_
  refine V_if_ne (X := True) (Y := r = 0) (tgt := 568) hc dL_law_553 (by decide) ⟨by omega, fun _ => trivial, fun h => by omega⟩ (fun _ => ?_) (fun hr0 => ?_)
  · skip
    refine V_goto (tgt := 1651) hc dL_law_568 (by decide) ?_
    refine V_lv [2, 3, 4, 5, 6] [(0, .ref b), (1, .ref hB), (2, .ref hM), (3, .ref oA), (4, .int (iI i))] rfl ?_
    exact V_widen (by omega) (by omega) (hK σ1 u2 C1 f1 hCW1 hR2 hI1)
  · skip
    refine V_aload_n hc dL_law_556 5 rfl ?_
    refine V_iconst hc dL_law_557 ?_
    refine V_lald hc 0 rfl dL_law_558 ?_
    refine V_iload hc dL_law_559 0 rfl ?_
    refine V_i2l hc dL_law_561 ?_
    refine V_lcmpT hc dL_law_562 ((hout hr0).trans (by rw [e3 hr0]; rfl)) ?_
    refine V_if_eq (X := True) (Y := False) (tgt := 568) hc dL_law_563 (by decide) ⟨by decide, fun _ => trivial, fun h => h rfl⟩ (fun _ => ?_) (fun h => h.elim)
    refine V_goto (tgt := 1651) hc dL_law_568 (by decide) ?_
    refine V_lv [2, 3, 4, 5, 6] [(0, .ref b), (1, .ref hB), (2, .ref hM), (3, .ref oA), (4, .int (iI i))] rfl ?_
    exact V_widen (by omega) (by omega) (hK σ1 u2 C1 f1 hCW1 hR2 hI1)
set_option maxHeartbeats 4000000 in
set_option maxRecDepth 100000 in
theorem case_undo (hc : Cx p room_1 s m args meth c D t A 9 cL_law wsL_law RL) (hG : Gx s) (hl0 : l.stackTraces = false) {L : Nat} {xs : Nat → Int32} {b : Nat} (hX : va_X b L xs s s.heap) (hbl : b < s.heap.size) (hbA : ¬ A b) (hL : L ≤ 2048) {hB hM oA : Nat} {a : Nat → Nat} {u : Nat → Nat → Int} {σ : aW} {B : Int} {f0 : Nat → Int64} {wC : va_W} (hCW : CW t hB wC σ) (hR : MREL u σ) (hI : iv B σ) (hb : B ≤ 1000000) {i : Int} (hi : 0 ≤ i ∧ i + 4 ≤ (L : Int)) (hfit : cells + 2 ≤ room_1.cells ∧ slots + 12 ≤ room_1.slots)
    (hK : ∀ (σ' : aW) (u' : Nat → Nat → Int) (wC' : va_W) (f' : Nat → Int64), CW t hB wC' σ' → MREL u' σ' → iv (B + 248) σ' → V p l e room_1 s m args below meth c D A 9 (cells + 2) (slots + 12) Q 1651 [(0, .ref b), (1, .ref hB), (2, .ref hM), (3, .ref oA), (4, .int (iI i))] [] ([aJ t oA 1 f'] ++ (LM t hM a u' ++ wC'))) : V p l e room_1 s m args below meth c D A 9 cells slots Q 571 [(0, .ref b), (1, .ref hB), (2, .ref hM), (3, .ref oA), (4, .int (iI i))] [] ([aJ t oA 1 f0] ++ (LM t hM a u ++ wC)) := by
  refine V_aload_n hc dL_law_571 1 rfl ?_
  refine V_aload_n hc dL_law_572 3 rfl ?_
  refine V_callW (As := [.ref hB, .ref oA]) (hh := [(0, 8, 11, 15)]) hc hG (pL1 _ _ _) (cls_undo hl0 f0 hCW hI) rfl gL_law_L_undo rfl ⟨rfl, rfl⟩ ok_L_undo ⟨Nat.le_of_ble_eq_true rfl, Nat.le_of_ble_eq_true rfl⟩ (Nat.le_of_ble_eq_true rfl) dL_law_573 ⟨by omega, by omega⟩ (fun r w hpo => ?_)
  obtain ⟨v, σ1, hrl, hCW1, hout⟩ := hpo
  obtain ⟨C1, f1⟩ := w
  have hrg := rl_rg hrl rg_undo
  have hI1 : iv (B + 248) σ1 := iv_rl hI (fun v s h => iv_undo hI h) hrl
  refine V_istore hc dL_law_576 [(5, .int (iI r)), (0, .ref b), (1, .ref hB), (2, .ref hM), (3, .ref oA), (4, .int (iI i))] (Nat.le_of_ble_eq_true rfl) rfl ?_
  refine V_aload_n hc dL_law_578 3 rfl ?_
  refine V_callVI (As := []) (wc := LM t hM a u) (wr := C1 ++ [aJ t oA 1 f1]) hc List.perm_append_comm rfl rfl (mdl_undo hR hI hb) rfl gL_law_X5_undo rfl ⟨rfl, rfl⟩ ok_X5_undo ⟨Nat.le_of_ble_eq_true rfl, Nat.le_of_ble_eq_true rfl⟩ (Nat.le_of_ble_eq_true rfl) dL_law_579 ⟨by omega, by omega⟩ (fun r2 u2 hpo => ?_)
  obtain ⟨σ2, hrl2, hR2⟩ := hpo
  obtain ⟨e1, e2, e3⟩ := det_undo hrl hrl2
  subst e2
  refine V_istore hc dL_law_582 [(6, .int (iI r2)), (5, .int (iI r)), (0, .ref b), (1, .ref hB), (2, .ref hM), (3, .ref oA), (4, .int (iI i))] (Nat.le_of_ble_eq_true rfl) rfl ?_
  refine V_aload_n hc dL_law_584 4 rfl ?_
  refine V_callVI (As := []) (wc := LM t hM a u2) (wr := C1 ++ [aJ t oA 1 f1]) hc (List.Perm.refl _) rfl rfl mdl_thrown rfl gL_law_X5_thrown rfl ⟨rfl, rfl⟩ ok_X5_thrown ⟨Nat.le_of_ble_eq_true rfl, Nat.le_of_ble_eq_true rfl⟩ (Nat.le_of_ble_eq_true rfl) dL_law_585 ⟨by omega, by omega⟩ (fun r3 u3 hpo => ?_)
  refine V_pm (ws1 := [aJ t oA 1 f1] ++ (LM t hM a u2 ++ C1)) (pL2 _ _ _) ?_
  refine V_iload hc dL_law_588 1 rfl ?_
  refine V_eqT (tgt := 595) hc dL_law_590 (by decide) (by rw [hpo, e1]) ?_
  refine V_iload hc dL_law_595 1 rfl ?_
  refine V_if_ne (X := True) (Y := r = 0) (tgt := 612) hc dL_law_597 (by decide) ⟨by omega, fun _ => trivial, fun h => by omega⟩ (fun _ => ?_) (fun hr0 => ?_)
  · skip
    refine V_goto (tgt := 1651) hc dL_law_612 (by decide) ?_
    refine V_lv [2, 3, 4, 5, 6] [(0, .ref b), (1, .ref hB), (2, .ref hM), (3, .ref oA), (4, .int (iI i))] rfl ?_
    exact V_widen (by omega) (by omega) (hK σ1 u2 C1 f1 hCW1 hR2 hI1)
  · skip
    refine V_aload_n hc dL_law_600 5 rfl ?_
    refine V_iconst hc dL_law_601 ?_
    refine V_lald hc 0 rfl dL_law_602 ?_
    refine V_iload hc dL_law_603 0 rfl ?_
    refine V_i2l hc dL_law_605 ?_
    refine V_lcmpT hc dL_law_606 ((hout hr0).trans (by rw [e3 hr0]; rfl)) ?_
    refine V_if_eq (X := True) (Y := False) (tgt := 612) hc dL_law_607 (by decide) ⟨by decide, fun _ => trivial, fun h => h rfl⟩ (fun _ => ?_) (fun h => h.elim)
    refine V_goto (tgt := 1651) hc dL_law_612 (by decide) ?_
    refine V_lv [2, 3, 4, 5, 6] [(0, .ref b), (1, .ref hB), (2, .ref hM), (3, .ref oA), (4, .int (iI i))] rfl ?_
    exact V_widen (by omega) (by omega) (hK σ1 u2 C1 f1 hCW1 hR2 hI1)
set_option maxHeartbeats 4000000 in
set_option maxRecDepth 100000 in
theorem case_keep (hc : Cx p room_1 s m args meth c D t A 9 cL_law wsL_law RL) (hG : Gx s) (hl0 : l.stackTraces = false) {L : Nat} {xs : Nat → Int32} {b : Nat} (hX : va_X b L xs s s.heap) (hbl : b < s.heap.size) (hbA : ¬ A b) (hL : L ≤ 2048) {hB hM oA : Nat} {a : Nat → Nat} {u : Nat → Nat → Int} {σ : aW} {B : Int} {f0 : Nat → Int64} {wC : va_W} (hCW : CW t hB wC σ) (hR : MREL u σ) (hI : iv B σ) (hb : B ≤ 1000000) {i : Int} (hi : 0 ≤ i ∧ i + 4 ≤ (L : Int)) (hfit : cells + 2 ≤ room_1.cells ∧ slots + 12 ≤ room_1.slots)
    (hK : ∀ (σ' : aW) (u' : Nat → Nat → Int) (wC' : va_W) (f' : Nat → Int64), CW t hB wC' σ' → MREL u' σ' → iv (B + 248) σ' → V p l e room_1 s m args below meth c D A 9 (cells + 2) (slots + 12) Q 1651 [(0, .ref b), (1, .ref hB), (2, .ref hM), (3, .ref oA), (4, .int (iI i))] [] ([aJ t oA 1 f'] ++ (LM t hM a u' ++ wC'))) : V p l e room_1 s m args below meth c D A 9 cells slots Q 615 [(0, .ref b), (1, .ref hB), (2, .ref hM), (3, .ref oA), (4, .int (iI i))] [] ([aJ t oA 1 f0] ++ (LM t hM a u ++ wC)) := by
  refine V_aload_n hc dL_law_615 1 rfl ?_
  refine V_aload_n hc dL_law_616 0 rfl ?_
  refine V_iload hc dL_law_617 4 rfl ?_
  refine V_iconst hc dL_law_619 ?_
  refine V_iadd hc dL_law_620 ?_
  refine V_sld hc hX hbl hbA (by omega) hL dL_law_621 ?_
  refine V_aload_n hc dL_law_622 3 rfl ?_
  refine V_callW (As := [.ref hB, .int (iI ((xs (i + 1).toNat).toInt)), .ref oA]) (hh := [(0, 9, 12, 13)]) hc hG (pL1 _ _ _) (cls_keep hl0 f0 hCW hI (inR_x _)) rfl gL_law_L_keep rfl ⟨rfl, rfl⟩ ok_L_keep ⟨Nat.le_of_ble_eq_true rfl, Nat.le_of_ble_eq_true rfl⟩ (Nat.le_of_ble_eq_true rfl) dL_law_623 ⟨by omega, by omega⟩ (fun r w hpo => ?_)
  obtain ⟨v, σ1, hrl, hCW1, hout⟩ := hpo
  obtain ⟨C1, f1⟩ := w
  have hrg := rl_rg hrl rg_keep
  have hI1 : iv (B + 248) σ1 := iv_rl hI (fun v s h => iv_keep hI h) hrl
  refine V_istore hc dL_law_626 [(5, .int (iI r)), (0, .ref b), (1, .ref hB), (2, .ref hM), (3, .ref oA), (4, .int (iI i))] (Nat.le_of_ble_eq_true rfl) rfl ?_
  refine V_aload_n hc dL_law_628 3 rfl ?_
  refine V_aload_n hc dL_law_629 1 rfl ?_
  refine V_iload hc dL_law_630 5 rfl ?_
  refine V_iconst hc dL_law_632 ?_
  refine V_iadd hc dL_law_633 ?_
  refine V_sld hc hX hbl hbA (by omega) hL dL_law_634 ?_
  refine V_callVI (As := [.int (iI ((xs (i + 1).toNat).toInt))]) (wc := LM t hM a u) (wr := C1 ++ [aJ t oA 1 f1]) hc List.perm_append_comm rfl rfl (mdl_keep hR hI hb (inR_x _)) rfl gL_law_X5_keep rfl ⟨rfl, rfl⟩ ok_X5_keep ⟨Nat.le_of_ble_eq_true rfl, Nat.le_of_ble_eq_true rfl⟩ (Nat.le_of_ble_eq_true rfl) dL_law_635 ⟨by omega, by omega⟩ (fun r2 u2 hpo => ?_)
  obtain ⟨σ2, hrl2, hR2⟩ := hpo
  obtain ⟨e1, e2, e3⟩ := det_keep hrl hrl2
  subst e2
  refine V_istore hc dL_law_638 [(6, .int (iI r2)), (5, .int (iI r)), (0, .ref b), (1, .ref hB), (2, .ref hM), (3, .ref oA), (4, .int (iI i))] (Nat.le_of_ble_eq_true rfl) rfl ?_
  refine V_aload_n hc dL_law_640 4 rfl ?_
  refine V_callVI (As := []) (wc := LM t hM a u2) (wr := C1 ++ [aJ t oA 1 f1]) hc (List.Perm.refl _) rfl rfl mdl_thrown rfl gL_law_X5_thrown rfl ⟨rfl, rfl⟩ ok_X5_thrown ⟨Nat.le_of_ble_eq_true rfl, Nat.le_of_ble_eq_true rfl⟩ (Nat.le_of_ble_eq_true rfl) dL_law_641 ⟨by omega, by omega⟩ (fun r3 u3 hpo => ?_)
  refine V_pm (ws1 := [aJ t oA 1 f1] ++ (LM t hM a u2 ++ C1)) (pL2 _ _ _) ?_
  refine V_iload hc dL_law_644 1 rfl ?_
  refine V_eqT (tgt := 651) hc dL_law_646 (by decide) (by rw [hpo, e1]) ?_
  refine V_iload hc dL_law_651 1 rfl ?_
  refine V_if_ne (X := True) (Y := r = 0) (tgt := 668) hc dL_law_653 (by decide) ⟨by omega, fun _ => trivial, fun h => by omega⟩ (fun _ => ?_) (fun hr0 => ?_)
  · skip
    refine V_goto (tgt := 1651) hc dL_law_668 (by decide) ?_
    refine V_lv [2, 3, 4, 5, 6] [(0, .ref b), (1, .ref hB), (2, .ref hM), (3, .ref oA), (4, .int (iI i))] rfl ?_
    exact V_widen (by omega) (by omega) (hK σ1 u2 C1 f1 hCW1 hR2 hI1)
  · skip
    refine V_aload_n hc dL_law_656 5 rfl ?_
    refine V_iconst hc dL_law_657 ?_
    refine V_lald hc 0 rfl dL_law_658 ?_
    refine V_iload hc dL_law_659 0 rfl ?_
    refine V_i2l hc dL_law_661 ?_
    refine V_lcmpT hc dL_law_662 ((hout hr0).trans (by rw [e3 hr0]; rfl)) ?_
    refine V_if_eq (X := True) (Y := False) (tgt := 668) hc dL_law_663 (by decide) ⟨by decide, fun _ => trivial, fun h => h rfl⟩ (fun _ => ?_) (fun h => h.elim)
    refine V_goto (tgt := 1651) hc dL_law_668 (by decide) ?_
    refine V_lv [2, 3, 4, 5, 6] [(0, .ref b), (1, .ref hB), (2, .ref hM), (3, .ref oA), (4, .int (iI i))] rfl ?_
    exact V_widen (by omega) (by omega) (hK σ1 u2 C1 f1 hCW1 hR2 hI1)
set_option maxHeartbeats 4000000 in
set_option maxRecDepth 100000 in
theorem case_goBack (hc : Cx p room_1 s m args meth c D t A 9 cL_law wsL_law RL) (hG : Gx s) (hl0 : l.stackTraces = false) {L : Nat} {xs : Nat → Int32} {b : Nat} (hX : va_X b L xs s s.heap) (hbl : b < s.heap.size) (hbA : ¬ A b) (hL : L ≤ 2048) {hB hM oA : Nat} {a : Nat → Nat} {u : Nat → Nat → Int} {σ : aW} {B : Int} {f0 : Nat → Int64} {wC : va_W} (hCW : CW t hB wC σ) (hR : MREL u σ) (hI : iv B σ) (hb : B ≤ 1000000) {i : Int} (hi : 0 ≤ i ∧ i + 4 ≤ (L : Int)) (hfit : cells + 2 ≤ room_1.cells ∧ slots + 12 ≤ room_1.slots)
    (hK : ∀ (σ' : aW) (u' : Nat → Nat → Int) (wC' : va_W) (f' : Nat → Int64), CW t hB wC' σ' → MREL u' σ' → iv (B + 248) σ' → V p l e room_1 s m args below meth c D A 9 (cells + 2) (slots + 12) Q 1651 [(0, .ref b), (1, .ref hB), (2, .ref hM), (3, .ref oA), (4, .int (iI i))] [] ([aJ t oA 1 f'] ++ (LM t hM a u' ++ wC'))) : V p l e room_1 s m args below meth c D A 9 cells slots Q 671 [(0, .ref b), (1, .ref hB), (2, .ref hM), (3, .ref oA), (4, .int (iI i))] [] ([aJ t oA 1 f0] ++ (LM t hM a u ++ wC)) := by
  refine V_aload_n hc dL_law_671 1 rfl ?_
  refine V_aload_n hc dL_law_672 0 rfl ?_
  refine V_iload hc dL_law_673 4 rfl ?_
  refine V_iconst hc dL_law_675 ?_
  refine V_iadd hc dL_law_676 ?_
  refine V_sld hc hX hbl hbA (by omega) hL dL_law_677 ?_
  refine V_aload_n hc dL_law_678 3 rfl ?_
  refine V_callW (As := [.ref hB, .int (iI ((xs (i + 1).toNat).toInt)), .ref oA]) (hh := [(0, 9, 12, 13), (0, 9, 15, 15)]) hc hG (pL1 _ _ _) (cls_goBack hl0 f0 hCW hI (inR_x _)) rfl gL_law_L_goBack rfl ⟨rfl, rfl⟩ ok_L_goBack ⟨Nat.le_of_ble_eq_true rfl, Nat.le_of_ble_eq_true rfl⟩ (Nat.le_of_ble_eq_true rfl) dL_law_679 ⟨by omega, by omega⟩ (fun r w hpo => ?_)
  obtain ⟨v, σ1, hrl, hCW1, hout⟩ := hpo
  obtain ⟨C1, f1⟩ := w
  have hrg := rl_rg hrl rg_goBack
  have hI1 : iv (B + 248) σ1 := iv_rl hI (fun v s h => iv_goBack hI h) hrl
  refine V_istore hc dL_law_682 [(5, .int (iI r)), (0, .ref b), (1, .ref hB), (2, .ref hM), (3, .ref oA), (4, .int (iI i))] (Nat.le_of_ble_eq_true rfl) rfl ?_
  refine V_aload_n hc dL_law_684 3 rfl ?_
  refine V_aload_n hc dL_law_685 1 rfl ?_
  refine V_iload hc dL_law_686 5 rfl ?_
  refine V_iconst hc dL_law_688 ?_
  refine V_iadd hc dL_law_689 ?_
  refine V_sld hc hX hbl hbA (by omega) hL dL_law_690 ?_
  refine V_callVI (As := [.int (iI ((xs (i + 1).toNat).toInt))]) (wc := LM t hM a u) (wr := C1 ++ [aJ t oA 1 f1]) hc List.perm_append_comm rfl rfl (mdl_goBack hR hI hb (inR_x _)) rfl gL_law_X5_goBack rfl ⟨rfl, rfl⟩ ok_X5_goBack ⟨Nat.le_of_ble_eq_true rfl, Nat.le_of_ble_eq_true rfl⟩ (Nat.le_of_ble_eq_true rfl) dL_law_691 ⟨by omega, by omega⟩ (fun r2 u2 hpo => ?_)
  obtain ⟨σ2, hrl2, hR2⟩ := hpo
  obtain ⟨e1, e2, e3⟩ := det_goBack hrl hrl2
  subst e2
  refine V_istore hc dL_law_694 [(6, .int (iI r2)), (5, .int (iI r)), (0, .ref b), (1, .ref hB), (2, .ref hM), (3, .ref oA), (4, .int (iI i))] (Nat.le_of_ble_eq_true rfl) rfl ?_
  refine V_aload_n hc dL_law_696 4 rfl ?_
  refine V_callVI (As := []) (wc := LM t hM a u2) (wr := C1 ++ [aJ t oA 1 f1]) hc (List.Perm.refl _) rfl rfl mdl_thrown rfl gL_law_X5_thrown rfl ⟨rfl, rfl⟩ ok_X5_thrown ⟨Nat.le_of_ble_eq_true rfl, Nat.le_of_ble_eq_true rfl⟩ (Nat.le_of_ble_eq_true rfl) dL_law_697 ⟨by omega, by omega⟩ (fun r3 u3 hpo => ?_)
  refine V_pm (ws1 := [aJ t oA 1 f1] ++ (LM t hM a u2 ++ C1)) (pL2 _ _ _) ?_
  refine V_iload hc dL_law_700 1 rfl ?_
  refine V_eqT (tgt := 707) hc dL_law_702 (by decide) (by rw [hpo, e1]) ?_
  refine V_iload hc dL_law_707 1 rfl ?_
  refine V_if_ne (X := True) (Y := r = 0) (tgt := 724) hc dL_law_709 (by decide) ⟨by omega, fun _ => trivial, fun h => by omega⟩ (fun _ => ?_) (fun hr0 => ?_)
  · skip
    refine V_goto (tgt := 1651) hc dL_law_724 (by decide) ?_
    refine V_lv [2, 3, 4, 5, 6] [(0, .ref b), (1, .ref hB), (2, .ref hM), (3, .ref oA), (4, .int (iI i))] rfl ?_
    exact V_widen (by omega) (by omega) (hK σ1 u2 C1 f1 hCW1 hR2 hI1)
  · skip
    refine V_aload_n hc dL_law_712 5 rfl ?_
    refine V_iconst hc dL_law_713 ?_
    refine V_lald hc 0 rfl dL_law_714 ?_
    refine V_iload hc dL_law_715 0 rfl ?_
    refine V_i2l hc dL_law_717 ?_
    refine V_lcmpT hc dL_law_718 ((hout hr0).trans (by rw [e3 hr0]; rfl)) ?_
    refine V_if_eq (X := True) (Y := False) (tgt := 724) hc dL_law_719 (by decide) ⟨by decide, fun _ => trivial, fun h => h rfl⟩ (fun _ => ?_) (fun h => h.elim)
    refine V_goto (tgt := 1651) hc dL_law_724 (by decide) ?_
    refine V_lv [2, 3, 4, 5, 6] [(0, .ref b), (1, .ref hB), (2, .ref hM), (3, .ref oA), (4, .int (iI i))] rfl ?_
    exact V_widen (by omega) (by omega) (hK σ1 u2 C1 f1 hCW1 hR2 hI1)
set_option maxHeartbeats 4000000 in
set_option maxRecDepth 100000 in
theorem case_contains (hc : Cx p room_1 s m args meth c D t A 9 cL_law wsL_law RL) (hG : Gx s) (hl0 : l.stackTraces = false) {L : Nat} {xs : Nat → Int32} {b : Nat} (hX : va_X b L xs s s.heap) (hbl : b < s.heap.size) (hbA : ¬ A b) (hL : L ≤ 2048) {hB hM oA : Nat} {a : Nat → Nat} {u : Nat → Nat → Int} {σ : aW} {B : Int} {f0 : Nat → Int64} {wC : va_W} (hCW : CW t hB wC σ) (hR : MREL u σ) (hI : iv B σ) (hb : B ≤ 1000000) {i : Int} (hi : 0 ≤ i ∧ i + 4 ≤ (L : Int)) (hfit : cells + 2 ≤ room_1.cells ∧ slots + 12 ≤ room_1.slots)
    (hK : ∀ (σ' : aW) (u' : Nat → Nat → Int) (wC' : va_W) (f' : Nat → Int64), CW t hB wC' σ' → MREL u' σ' → iv (B + 248) σ' → V p l e room_1 s m args below meth c D A 9 (cells + 2) (slots + 12) Q 1651 [(0, .ref b), (1, .ref hB), (2, .ref hM), (3, .ref oA), (4, .int (iI i))] [] ([aJ t oA 1 f'] ++ (LM t hM a u' ++ wC'))) : V p l e room_1 s m args below meth c D A 9 cells slots Q 727 [(0, .ref b), (1, .ref hB), (2, .ref hM), (3, .ref oA), (4, .int (iI i))] [] ([aJ t oA 1 f0] ++ (LM t hM a u ++ wC)) := by
  refine V_aload_n hc dL_law_727 1 rfl ?_
  refine V_aload_n hc dL_law_728 0 rfl ?_
  refine V_iload hc dL_law_729 4 rfl ?_
  refine V_iconst hc dL_law_731 ?_
  refine V_iadd hc dL_law_732 ?_
  refine V_sld hc hX hbl hbA (by omega) hL dL_law_733 ?_
  refine V_aload_n hc dL_law_734 3 rfl ?_
  refine V_callW (As := [.ref hB, .int (iI ((xs (i + 1).toNat).toInt)), .ref oA]) (hh := [(0, 16, 19, 13)]) hc hG (pL1 _ _ _) (cls_contains hl0 f0 hCW hI (inR_x _)) rfl gL_law_L_contains rfl ⟨rfl, rfl⟩ ok_L_contains ⟨Nat.le_of_ble_eq_true rfl, Nat.le_of_ble_eq_true rfl⟩ (Nat.le_of_ble_eq_true rfl) dL_law_735 ⟨by omega, by omega⟩ (fun r w hpo => ?_)
  obtain ⟨v, σ1, hrl, hCW1, hout⟩ := hpo
  obtain ⟨C1, f1⟩ := w
  have hrg := rl_rg hrl rg_contains
  have hI1 : iv (B + 248) σ1 := iv_rl hI (fun v s h => by rw [h.2.2.2]; exact hI.mono (by omega)) hrl
  refine V_istore hc dL_law_738 [(5, .int (iI r)), (0, .ref b), (1, .ref hB), (2, .ref hM), (3, .ref oA), (4, .int (iI i))] (Nat.le_of_ble_eq_true rfl) rfl ?_
  refine V_aload_n hc dL_law_740 3 rfl ?_
  refine V_aload_n hc dL_law_741 1 rfl ?_
  refine V_iload hc dL_law_742 5 rfl ?_
  refine V_iconst hc dL_law_744 ?_
  refine V_iadd hc dL_law_745 ?_
  refine V_sld hc hX hbl hbA (by omega) hL dL_law_746 ?_
  refine V_callVI (As := [.int (iI ((xs (i + 1).toNat).toInt))]) (wc := LM t hM a u) (wr := C1 ++ [aJ t oA 1 f1]) hc List.perm_append_comm rfl rfl (mdl_contains hR hI hb (inR_x _)) rfl gL_law_X5_contains rfl ⟨rfl, rfl⟩ ok_X5_contains ⟨Nat.le_of_ble_eq_true rfl, Nat.le_of_ble_eq_true rfl⟩ (Nat.le_of_ble_eq_true rfl) dL_law_747 ⟨by omega, by omega⟩ (fun r2 u2 hpo => ?_)
  obtain ⟨σ2, hrl2, hR2⟩ := hpo
  obtain ⟨e1, e2, e3⟩ := det_contains hrl hrl2
  subst e2
  refine V_istore hc dL_law_750 [(6, .int (iI r2)), (5, .int (iI r)), (0, .ref b), (1, .ref hB), (2, .ref hM), (3, .ref oA), (4, .int (iI i))] (Nat.le_of_ble_eq_true rfl) rfl ?_
  refine V_aload_n hc dL_law_752 4 rfl ?_
  refine V_callVI (As := []) (wc := LM t hM a u2) (wr := C1 ++ [aJ t oA 1 f1]) hc (List.Perm.refl _) rfl rfl mdl_thrown rfl gL_law_X5_thrown rfl ⟨rfl, rfl⟩ ok_X5_thrown ⟨Nat.le_of_ble_eq_true rfl, Nat.le_of_ble_eq_true rfl⟩ (Nat.le_of_ble_eq_true rfl) dL_law_753 ⟨by omega, by omega⟩ (fun r3 u3 hpo => ?_)
  refine V_pm (ws1 := [aJ t oA 1 f1] ++ (LM t hM a u2 ++ C1)) (pL2 _ _ _) ?_
  refine V_iload hc dL_law_756 1 rfl ?_
  refine V_eqT (tgt := 763) hc dL_law_758 (by decide) (by rw [hpo, e1]) ?_
  refine V_iload hc dL_law_763 1 rfl ?_
  refine V_if_ne (X := True) (Y := r = 0) (tgt := 787) hc dL_law_765 (by decide) ⟨by omega, fun _ => trivial, fun h => by omega⟩ (fun _ => ?_) (fun hr0 => ?_)
  · skip
    refine V_goto (tgt := 1651) hc dL_law_787 (by decide) ?_
    refine V_lv [2, 3, 4, 5, 6] [(0, .ref b), (1, .ref hB), (2, .ref hM), (3, .ref oA), (4, .int (iI i))] rfl ?_
    exact V_widen (by omega) (by omega) (hK σ1 u2 C1 f1 hCW1 hR2 hI1)
  · skip
    refine V_aload_n hc dL_law_768 5 rfl ?_
    refine V_iconst hc dL_law_769 ?_
    refine V_lald hc 0 rfl dL_law_770 ?_
    refine V_iload hc dL_law_771 0 rfl ?_
    have hv01 : v = 0 ∨ v = 1 := by
      rcases hrl with ⟨-, hok⟩ | ⟨hrf, -⟩
      · exact hok.2.1
      · have := rg_contains r hrf; omega
    have e4 := e3 hr0
    refine V_if_eq (X := v = 0) (Y := ¬ v = 0) (tgt := 780) hc dL_law_773 (by decide) ⟨by omega, fun h => by omega, fun h => by omega⟩ (fun hv0 => ?_) (fun hv0 => ?_)
    · skip
      refine V_lconst hc dL_law_780 ?_
      refine V_lcmpT hc dL_law_781 ((hout hr0).trans (by rw [vlb, if_pos hv0]; rfl)) ?_
      refine V_if_eq (X := True) (Y := False) (tgt := 787) hc dL_law_782 (by decide) ⟨by decide, fun _ => trivial, fun h => h rfl⟩ (fun _ => ?_) (fun h => h.elim)
      refine V_goto (tgt := 1651) hc dL_law_787 (by decide) ?_
      refine V_lv [2, 3, 4, 5, 6] [(0, .ref b), (1, .ref hB), (2, .ref hM), (3, .ref oA), (4, .int (iI i))] rfl ?_
      exact V_widen (by omega) (by omega) (hK σ1 u2 C1 f1 hCW1 hR2 hI1)
    · skip
      refine V_lconst hc dL_law_776 ?_
      refine V_goto (tgt := 781) hc dL_law_777 (by decide) ?_
      refine V_lcmpT hc dL_law_781 ((hout hr0).trans (by rw [vlb, if_neg hv0]; rfl)) ?_
      refine V_if_eq (X := True) (Y := False) (tgt := 787) hc dL_law_782 (by decide) ⟨by decide, fun _ => trivial, fun h => h rfl⟩ (fun _ => ?_) (fun h => h.elim)
      refine V_goto (tgt := 1651) hc dL_law_787 (by decide) ?_
      refine V_lv [2, 3, 4, 5, 6] [(0, .ref b), (1, .ref hB), (2, .ref hM), (3, .ref oA), (4, .int (iI i))] rfl ?_
      exact V_widen (by omega) (by omega) (hK σ1 u2 C1 f1 hCW1 hR2 hI1)
set_option maxHeartbeats 4000000 in
set_option maxRecDepth 100000 in
theorem case_near (hc : Cx p room_1 s m args meth c D t A 9 cL_law wsL_law RL) (hG : Gx s) (hl0 : l.stackTraces = false) {L : Nat} {xs : Nat → Int32} {b : Nat} (hX : va_X b L xs s s.heap) (hbl : b < s.heap.size) (hbA : ¬ A b) (hL : L ≤ 2048) {hB hM oA : Nat} {a : Nat → Nat} {u : Nat → Nat → Int} {σ : aW} {B : Int} {f0 : Nat → Int64} {wC : va_W} (hCW : CW t hB wC σ) (hR : MREL u σ) (hI : iv B σ) (hb : B ≤ 1000000) {i : Int} (hi : 0 ≤ i ∧ i + 4 ≤ (L : Int)) (hfit : cells + 2 ≤ room_1.cells ∧ slots + 12 ≤ room_1.slots)
    (hK : ∀ (σ' : aW) (u' : Nat → Nat → Int) (wC' : va_W) (f' : Nat → Int64), CW t hB wC' σ' → MREL u' σ' → iv (B + 248) σ' → V p l e room_1 s m args below meth c D A 9 (cells + 2) (slots + 12) Q 1651 [(0, .ref b), (1, .ref hB), (2, .ref hM), (3, .ref oA), (4, .int (iI i))] [] ([aJ t oA 1 f'] ++ (LM t hM a u' ++ wC'))) : V p l e room_1 s m args below meth c D A 9 cells slots Q 790 [(0, .ref b), (1, .ref hB), (2, .ref hM), (3, .ref oA), (4, .int (iI i))] [] ([aJ t oA 1 f0] ++ (LM t hM a u ++ wC)) := by
  refine V_aload_n hc dL_law_790 1 rfl ?_
  refine V_aload_n hc dL_law_791 0 rfl ?_
  refine V_iload hc dL_law_792 4 rfl ?_
  refine V_iconst hc dL_law_794 ?_
  refine V_iadd hc dL_law_795 ?_
  refine V_sld hc hX hbl hbA (by omega) hL dL_law_796 ?_
  refine V_aload_n hc dL_law_797 0 rfl ?_
  refine V_iload hc dL_law_798 4 rfl ?_
  refine V_iconst hc dL_law_800 ?_
  refine V_iadd hc dL_law_801 ?_
  refine V_sld hc hX hbl hbA (by omega) hL dL_law_802 ?_
  refine V_aload_n hc dL_law_803 3 rfl ?_
  refine V_callW (As := [.ref hB, .int (iI ((xs (i + 1).toNat).toInt)), .int (iI ((xs (i + 2).toNat).toInt)), .ref oA]) (hh := [(0, 10, 13, 13)]) hc hG (pL1 _ _ _) (cls_near hl0 f0 hCW hI (inR_x _) (inR_x _)) rfl gL_law_L_near rfl ⟨rfl, rfl⟩ ok_L_near ⟨Nat.le_of_ble_eq_true rfl, Nat.le_of_ble_eq_true rfl⟩ (Nat.le_of_ble_eq_true rfl) dL_law_804 ⟨by omega, by omega⟩ (fun r w hpo => ?_)
  obtain ⟨v, σ1, hrl, hCW1, hout⟩ := hpo
  obtain ⟨C1, f1⟩ := w
  have hrg := rl_rg hrl rg_near
  have hI1 : iv (B + 248) σ1 := iv_rl hI (fun v s h => by rw [h.2.2]; exact hI.mono (by omega)) hrl
  refine V_istore hc dL_law_807 [(5, .int (iI r)), (0, .ref b), (1, .ref hB), (2, .ref hM), (3, .ref oA), (4, .int (iI i))] (Nat.le_of_ble_eq_true rfl) rfl ?_
  refine V_aload_n hc dL_law_809 3 rfl ?_
  refine V_aload_n hc dL_law_810 1 rfl ?_
  refine V_iload hc dL_law_811 5 rfl ?_
  refine V_iconst hc dL_law_813 ?_
  refine V_iadd hc dL_law_814 ?_
  refine V_sld hc hX hbl hbA (by omega) hL dL_law_815 ?_
  refine V_aload_n hc dL_law_816 1 rfl ?_
  refine V_iload hc dL_law_817 5 rfl ?_
  refine V_iconst hc dL_law_819 ?_
  refine V_iadd hc dL_law_820 ?_
  refine V_sld hc hX hbl hbA (by omega) hL dL_law_821 ?_
  refine V_callVI (As := [.int (iI ((xs (i + 1).toNat).toInt)), .int (iI ((xs (i + 2).toNat).toInt))]) (wc := LM t hM a u) (wr := C1 ++ [aJ t oA 1 f1]) hc List.perm_append_comm rfl rfl (mdl_near hR hI hb (inR_x _) (inR_x _)) rfl gL_law_X5_near rfl ⟨rfl, rfl⟩ ok_X5_near ⟨Nat.le_of_ble_eq_true rfl, Nat.le_of_ble_eq_true rfl⟩ (Nat.le_of_ble_eq_true rfl) dL_law_822 ⟨by omega, by omega⟩ (fun r2 u2 hpo => ?_)
  obtain ⟨σ2, hrl2, hR2⟩ := hpo
  obtain ⟨e1, e2, e3⟩ := det_near hI hrl hrl2
  subst e2
  refine V_istore hc dL_law_825 [(6, .int (iI r2)), (5, .int (iI r)), (0, .ref b), (1, .ref hB), (2, .ref hM), (3, .ref oA), (4, .int (iI i))] (Nat.le_of_ble_eq_true rfl) rfl ?_
  refine V_aload_n hc dL_law_827 4 rfl ?_
  refine V_callVI (As := []) (wc := LM t hM a u2) (wr := C1 ++ [aJ t oA 1 f1]) hc (List.Perm.refl _) rfl rfl mdl_thrown rfl gL_law_X5_thrown rfl ⟨rfl, rfl⟩ ok_X5_thrown ⟨Nat.le_of_ble_eq_true rfl, Nat.le_of_ble_eq_true rfl⟩ (Nat.le_of_ble_eq_true rfl) dL_law_828 ⟨by omega, by omega⟩ (fun r3 u3 hpo => ?_)
  refine V_pm (ws1 := [aJ t oA 1 f1] ++ (LM t hM a u2 ++ C1)) (pL2 _ _ _) ?_
  refine V_iload hc dL_law_831 1 rfl ?_
  refine V_eqT (tgt := 838) hc dL_law_833 (by decide) (by rw [hpo, e1]) ?_
  refine V_iload hc dL_law_838 1 rfl ?_
  refine V_if_ne (X := True) (Y := r = 0) (tgt := 855) hc dL_law_840 (by decide) ⟨by omega, fun _ => trivial, fun h => by omega⟩ (fun _ => ?_) (fun hr0 => ?_)
  · skip
    refine V_goto (tgt := 1651) hc dL_law_855 (by decide) ?_
    refine V_lv [2, 3, 4, 5, 6] [(0, .ref b), (1, .ref hB), (2, .ref hM), (3, .ref oA), (4, .int (iI i))] rfl ?_
    exact V_widen (by omega) (by omega) (hK σ1 u2 C1 f1 hCW1 hR2 hI1)
  · skip
    refine V_aload_n hc dL_law_843 5 rfl ?_
    refine V_iconst hc dL_law_844 ?_
    refine V_lald hc 0 rfl dL_law_845 ?_
    refine V_iload hc dL_law_846 0 rfl ?_
    refine V_i2l hc dL_law_848 ?_
    refine V_lcmpT hc dL_law_849 ((hout hr0).trans (by rw [e3 hr0]; rfl)) ?_
    refine V_if_eq (X := True) (Y := False) (tgt := 855) hc dL_law_850 (by decide) ⟨by decide, fun _ => trivial, fun h => h rfl⟩ (fun _ => ?_) (fun h => h.elim)
    refine V_goto (tgt := 1651) hc dL_law_855 (by decide) ?_
    refine V_lv [2, 3, 4, 5, 6] [(0, .ref b), (1, .ref hB), (2, .ref hM), (3, .ref oA), (4, .int (iI i))] rfl ?_
    exact V_widen (by omega) (by omega) (hK σ1 u2 C1 f1 hCW1 hR2 hI1)
set_option maxHeartbeats 4000000 in
set_option maxRecDepth 100000 in
theorem case_rank (hc : Cx p room_1 s m args meth c D t A 9 cL_law wsL_law RL) (hG : Gx s) (hl0 : l.stackTraces = false) {L : Nat} {xs : Nat → Int32} {b : Nat} (hX : va_X b L xs s s.heap) (hbl : b < s.heap.size) (hbA : ¬ A b) (hL : L ≤ 2048) {hB hM oA : Nat} {a : Nat → Nat} {u : Nat → Nat → Int} {σ : aW} {B : Int} {f0 : Nat → Int64} {wC : va_W} (hCW : CW t hB wC σ) (hR : MREL u σ) (hI : iv B σ) (hb : B ≤ 1000000) {i : Int} (hi : 0 ≤ i ∧ i + 4 ≤ (L : Int)) (hfit : cells + 2 ≤ room_1.cells ∧ slots + 12 ≤ room_1.slots)
    (hK : ∀ (σ' : aW) (u' : Nat → Nat → Int) (wC' : va_W) (f' : Nat → Int64), CW t hB wC' σ' → MREL u' σ' → iv (B + 248) σ' → V p l e room_1 s m args below meth c D A 9 (cells + 2) (slots + 12) Q 1651 [(0, .ref b), (1, .ref hB), (2, .ref hM), (3, .ref oA), (4, .int (iI i))] [] ([aJ t oA 1 f'] ++ (LM t hM a u' ++ wC'))) : V p l e room_1 s m args below meth c D A 9 cells slots Q 858 [(0, .ref b), (1, .ref hB), (2, .ref hM), (3, .ref oA), (4, .int (iI i))] [] ([aJ t oA 1 f0] ++ (LM t hM a u ++ wC)) := by
  refine V_aload_n hc dL_law_858 1 rfl ?_
  refine V_aload_n hc dL_law_859 0 rfl ?_
  refine V_iload hc dL_law_860 4 rfl ?_
  refine V_iconst hc dL_law_862 ?_
  refine V_iadd hc dL_law_863 ?_
  refine V_sld hc hX hbl hbA (by omega) hL dL_law_864 ?_
  refine V_aload_n hc dL_law_865 3 rfl ?_
  refine V_callW (As := [.ref hB, .int (iI ((xs (i + 1).toNat).toInt)), .ref oA]) (hh := [(0, 9, 12, 13)]) hc hG (pL1 _ _ _) (cls_rank hl0 f0 hCW hI (inR_x _)) rfl gL_law_L_rank rfl ⟨rfl, rfl⟩ ok_L_rank ⟨Nat.le_of_ble_eq_true rfl, Nat.le_of_ble_eq_true rfl⟩ (Nat.le_of_ble_eq_true rfl) dL_law_866 ⟨by omega, by omega⟩ (fun r w hpo => ?_)
  obtain ⟨v, σ1, hrl, hCW1, hout⟩ := hpo
  obtain ⟨C1, f1⟩ := w
  have hrg := rl_rg hrl rg_rank
  have hI1 : iv (B + 248) σ1 := iv_rl hI (fun v s h => by rw [h.2.2]; exact hI.mono (by omega)) hrl
  refine V_istore hc dL_law_869 [(5, .int (iI r)), (0, .ref b), (1, .ref hB), (2, .ref hM), (3, .ref oA), (4, .int (iI i))] (Nat.le_of_ble_eq_true rfl) rfl ?_
  refine V_aload_n hc dL_law_871 3 rfl ?_
  refine V_aload_n hc dL_law_872 1 rfl ?_
  refine V_iload hc dL_law_873 5 rfl ?_
  refine V_iconst hc dL_law_875 ?_
  refine V_iadd hc dL_law_876 ?_
  refine V_sld hc hX hbl hbA (by omega) hL dL_law_877 ?_
  refine V_callVI (As := [.int (iI ((xs (i + 1).toNat).toInt))]) (wc := LM t hM a u) (wr := C1 ++ [aJ t oA 1 f1]) hc List.perm_append_comm rfl rfl (mdl_rank hR hI hb (inR_x _)) rfl gL_law_X5_rank rfl ⟨rfl, rfl⟩ ok_X5_rank ⟨Nat.le_of_ble_eq_true rfl, Nat.le_of_ble_eq_true rfl⟩ (Nat.le_of_ble_eq_true rfl) dL_law_878 ⟨by omega, by omega⟩ (fun r2 u2 hpo => ?_)
  obtain ⟨σ2, hrl2, hR2⟩ := hpo
  obtain ⟨e1, e2, e3⟩ := det_rank hrl hrl2
  subst e2
  refine V_istore hc dL_law_881 [(6, .int (iI r2)), (5, .int (iI r)), (0, .ref b), (1, .ref hB), (2, .ref hM), (3, .ref oA), (4, .int (iI i))] (Nat.le_of_ble_eq_true rfl) rfl ?_
  refine V_aload_n hc dL_law_883 4 rfl ?_
  refine V_callVI (As := []) (wc := LM t hM a u2) (wr := C1 ++ [aJ t oA 1 f1]) hc (List.Perm.refl _) rfl rfl mdl_thrown rfl gL_law_X5_thrown rfl ⟨rfl, rfl⟩ ok_X5_thrown ⟨Nat.le_of_ble_eq_true rfl, Nat.le_of_ble_eq_true rfl⟩ (Nat.le_of_ble_eq_true rfl) dL_law_884 ⟨by omega, by omega⟩ (fun r3 u3 hpo => ?_)
  refine V_pm (ws1 := [aJ t oA 1 f1] ++ (LM t hM a u2 ++ C1)) (pL2 _ _ _) ?_
  refine V_iload hc dL_law_887 1 rfl ?_
  refine V_eqT (tgt := 894) hc dL_law_889 (by decide) (by rw [hpo, e1]) ?_
  refine V_iload hc dL_law_894 1 rfl ?_
  refine V_if_ne (X := True) (Y := r = 0) (tgt := 911) hc dL_law_896 (by decide) ⟨by omega, fun _ => trivial, fun h => by omega⟩ (fun _ => ?_) (fun hr0 => ?_)
  · skip
    refine V_goto (tgt := 1651) hc dL_law_911 (by decide) ?_
    refine V_lv [2, 3, 4, 5, 6] [(0, .ref b), (1, .ref hB), (2, .ref hM), (3, .ref oA), (4, .int (iI i))] rfl ?_
    exact V_widen (by omega) (by omega) (hK σ1 u2 C1 f1 hCW1 hR2 hI1)
  · skip
    refine V_aload_n hc dL_law_899 5 rfl ?_
    refine V_iconst hc dL_law_900 ?_
    refine V_lald hc 0 rfl dL_law_901 ?_
    refine V_iload hc dL_law_902 0 rfl ?_
    refine V_i2l hc dL_law_904 ?_
    refine V_lcmpT hc dL_law_905 ((hout hr0).trans (by rw [e3 hr0]; rfl)) ?_
    refine V_if_eq (X := True) (Y := False) (tgt := 911) hc dL_law_906 (by decide) ⟨by decide, fun _ => trivial, fun h => h rfl⟩ (fun _ => ?_) (fun h => h.elim)
    refine V_goto (tgt := 1651) hc dL_law_911 (by decide) ?_
    refine V_lv [2, 3, 4, 5, 6] [(0, .ref b), (1, .ref hB), (2, .ref hM), (3, .ref oA), (4, .int (iI i))] rfl ?_
    exact V_widen (by omega) (by omega) (hK σ1 u2 C1 f1 hCW1 hR2 hI1)
set_option maxHeartbeats 4000000 in
set_option maxRecDepth 100000 in
theorem case_keyAt (hc : Cx p room_1 s m args meth c D t A 9 cL_law wsL_law RL) (hG : Gx s) (hl0 : l.stackTraces = false) {L : Nat} {xs : Nat → Int32} {b : Nat} (hX : va_X b L xs s s.heap) (hbl : b < s.heap.size) (hbA : ¬ A b) (hL : L ≤ 2048) {hB hM oA : Nat} {a : Nat → Nat} {u : Nat → Nat → Int} {σ : aW} {B : Int} {f0 : Nat → Int64} {wC : va_W} (hCW : CW t hB wC σ) (hR : MREL u σ) (hI : iv B σ) (hb : B ≤ 1000000) {i : Int} (hi : 0 ≤ i ∧ i + 4 ≤ (L : Int)) (hfit : cells + 2 ≤ room_1.cells ∧ slots + 12 ≤ room_1.slots)
    (hK : ∀ (σ' : aW) (u' : Nat → Nat → Int) (wC' : va_W) (f' : Nat → Int64), CW t hB wC' σ' → MREL u' σ' → iv (B + 248) σ' → V p l e room_1 s m args below meth c D A 9 (cells + 2) (slots + 12) Q 1651 [(0, .ref b), (1, .ref hB), (2, .ref hM), (3, .ref oA), (4, .int (iI i))] [] ([aJ t oA 1 f'] ++ (LM t hM a u' ++ wC'))) : V p l e room_1 s m args below meth c D A 9 cells slots Q 914 [(0, .ref b), (1, .ref hB), (2, .ref hM), (3, .ref oA), (4, .int (iI i))] [] ([aJ t oA 1 f0] ++ (LM t hM a u ++ wC)) := by
  refine V_aload_n hc dL_law_914 1 rfl ?_
  refine V_aload_n hc dL_law_915 0 rfl ?_
  refine V_iload hc dL_law_916 4 rfl ?_
  refine V_iconst hc dL_law_918 ?_
  refine V_iadd hc dL_law_919 ?_
  refine V_sld hc hX hbl hbA (by omega) hL dL_law_920 ?_
  refine V_aload_n hc dL_law_921 3 rfl ?_
  refine V_callW (As := [.ref hB, .int (iI ((xs (i + 1).toNat).toInt)), .ref oA]) (hh := [(0, 9, 12, 13)]) hc hG (pL1 _ _ _) (cls_keyAt hl0 f0 hCW hI (inR_x _)) rfl gL_law_L_keyAt rfl ⟨rfl, rfl⟩ ok_L_keyAt ⟨Nat.le_of_ble_eq_true rfl, Nat.le_of_ble_eq_true rfl⟩ (Nat.le_of_ble_eq_true rfl) dL_law_922 ⟨by omega, by omega⟩ (fun r w hpo => ?_)
  obtain ⟨v, σ1, hrl, hCW1, hout⟩ := hpo
  obtain ⟨C1, f1⟩ := w
  have hrg := rl_rg hrl rg_keyAt
  have hI1 : iv (B + 248) σ1 := iv_rl hI (fun v s h => by rw [h.2.2]; exact hI.mono (by omega)) hrl
  refine V_istore hc dL_law_925 [(5, .int (iI r)), (0, .ref b), (1, .ref hB), (2, .ref hM), (3, .ref oA), (4, .int (iI i))] (Nat.le_of_ble_eq_true rfl) rfl ?_
  refine V_aload_n hc dL_law_927 3 rfl ?_
  refine V_aload_n hc dL_law_928 1 rfl ?_
  refine V_iload hc dL_law_929 5 rfl ?_
  refine V_iconst hc dL_law_931 ?_
  refine V_iadd hc dL_law_932 ?_
  refine V_sld hc hX hbl hbA (by omega) hL dL_law_933 ?_
  refine V_callVI (As := [.int (iI ((xs (i + 1).toNat).toInt))]) (wc := LM t hM a u) (wr := C1 ++ [aJ t oA 1 f1]) hc List.perm_append_comm rfl rfl (mdl_keyAt hR hI hb (inR_x _)) rfl gL_law_X5_keyAt rfl ⟨rfl, rfl⟩ ok_X5_keyAt ⟨Nat.le_of_ble_eq_true rfl, Nat.le_of_ble_eq_true rfl⟩ (Nat.le_of_ble_eq_true rfl) dL_law_934 ⟨by omega, by omega⟩ (fun r2 u2 hpo => ?_)
  obtain ⟨σ2, hrl2, hR2⟩ := hpo
  obtain ⟨e1, e2, e3⟩ := det_keyAt hI hrl hrl2
  subst e2
  refine V_istore hc dL_law_937 [(6, .int (iI r2)), (5, .int (iI r)), (0, .ref b), (1, .ref hB), (2, .ref hM), (3, .ref oA), (4, .int (iI i))] (Nat.le_of_ble_eq_true rfl) rfl ?_
  refine V_aload_n hc dL_law_939 4 rfl ?_
  refine V_callVI (As := []) (wc := LM t hM a u2) (wr := C1 ++ [aJ t oA 1 f1]) hc (List.Perm.refl _) rfl rfl mdl_thrown rfl gL_law_X5_thrown rfl ⟨rfl, rfl⟩ ok_X5_thrown ⟨Nat.le_of_ble_eq_true rfl, Nat.le_of_ble_eq_true rfl⟩ (Nat.le_of_ble_eq_true rfl) dL_law_940 ⟨by omega, by omega⟩ (fun r3 u3 hpo => ?_)
  refine V_pm (ws1 := [aJ t oA 1 f1] ++ (LM t hM a u2 ++ C1)) (pL2 _ _ _) ?_
  refine V_iload hc dL_law_943 1 rfl ?_
  refine V_eqT (tgt := 950) hc dL_law_945 (by decide) (by rw [hpo, e1]) ?_
  refine V_iload hc dL_law_950 1 rfl ?_
  refine V_if_ne (X := True) (Y := r = 0) (tgt := 967) hc dL_law_952 (by decide) ⟨by omega, fun _ => trivial, fun h => by omega⟩ (fun _ => ?_) (fun hr0 => ?_)
  · skip
    refine V_goto (tgt := 1651) hc dL_law_967 (by decide) ?_
    refine V_lv [2, 3, 4, 5, 6] [(0, .ref b), (1, .ref hB), (2, .ref hM), (3, .ref oA), (4, .int (iI i))] rfl ?_
    exact V_widen (by omega) (by omega) (hK σ1 u2 C1 f1 hCW1 hR2 hI1)
  · skip
    refine V_aload_n hc dL_law_955 5 rfl ?_
    refine V_iconst hc dL_law_956 ?_
    refine V_lald hc 0 rfl dL_law_957 ?_
    refine V_iload hc dL_law_958 0 rfl ?_
    refine V_i2l hc dL_law_960 ?_
    refine V_lcmpT hc dL_law_961 ((hout hr0).trans (by rw [e3 hr0]; rfl)) ?_
    refine V_if_eq (X := True) (Y := False) (tgt := 967) hc dL_law_962 (by decide) ⟨by decide, fun _ => trivial, fun h => h rfl⟩ (fun _ => ?_) (fun h => h.elim)
    refine V_goto (tgt := 1651) hc dL_law_967 (by decide) ?_
    refine V_lv [2, 3, 4, 5, 6] [(0, .ref b), (1, .ref hB), (2, .ref hM), (3, .ref oA), (4, .int (iI i))] rfl ?_
    exact V_widen (by omega) (by omega) (hK σ1 u2 C1 f1 hCW1 hR2 hI1)
set_option maxHeartbeats 4000000 in
set_option maxRecDepth 100000 in
theorem case_node (hc : Cx p room_1 s m args meth c D t A 9 cL_law wsL_law RL) (hG : Gx s) (hl0 : l.stackTraces = false) {L : Nat} {xs : Nat → Int32} {b : Nat} (hX : va_X b L xs s s.heap) (hbl : b < s.heap.size) (hbA : ¬ A b) (hL : L ≤ 2048) {hB hM oA : Nat} {a : Nat → Nat} {u : Nat → Nat → Int} {σ : aW} {B : Int} {f0 : Nat → Int64} {wC : va_W} (hCW : CW t hB wC σ) (hR : MREL u σ) (hI : iv B σ) (hb : B ≤ 1000000) {i : Int} (hi : 0 ≤ i ∧ i + 4 ≤ (L : Int)) (hfit : cells + 2 ≤ room_1.cells ∧ slots + 12 ≤ room_1.slots)
    (hK : ∀ (σ' : aW) (u' : Nat → Nat → Int) (wC' : va_W) (f' : Nat → Int64), CW t hB wC' σ' → MREL u' σ' → iv (B + 248) σ' → V p l e room_1 s m args below meth c D A 9 (cells + 2) (slots + 12) Q 1651 [(0, .ref b), (1, .ref hB), (2, .ref hM), (3, .ref oA), (4, .int (iI i))] [] ([aJ t oA 1 f'] ++ (LM t hM a u' ++ wC'))) : V p l e room_1 s m args below meth c D A 9 cells slots Q 970 [(0, .ref b), (1, .ref hB), (2, .ref hM), (3, .ref oA), (4, .int (iI i))] [] ([aJ t oA 1 f0] ++ (LM t hM a u ++ wC)) := by
  by_cases hz : (xs (i + 1).toNat).toInt = 0
  · skip
    refine V_aload_n hc dL_law_970 1 rfl ?_
    refine V_aload_n hc dL_law_971 0 rfl ?_
    refine V_iload hc dL_law_972 4 rfl ?_
    refine V_iconst hc dL_law_974 ?_
    refine V_iadd hc dL_law_975 ?_
    refine V_sld hc hX hbl hbA (by omega) hL dL_law_976 ?_
    refine V_if_eq (X := True) (Y := False) (tgt := 984) hc dL_law_977 (by decide) ⟨inR_x _, fun _ => trivial, fun h => h hz⟩ (fun _ => ?_) (fun h => h.elim)
    refine V_iconst hc dL_law_984 ?_
    refine V_aload_n hc dL_law_985 0 rfl ?_
    refine V_iload hc dL_law_986 4 rfl ?_
    refine V_iconst hc dL_law_988 ?_
    refine V_iadd hc dL_law_989 ?_
    refine V_sld hc hX hbl hbA (by omega) hL dL_law_990 ?_
    refine V_aload_n hc dL_law_991 0 rfl ?_
    refine V_iload hc dL_law_992 4 rfl ?_
    refine V_iconst hc dL_law_994 ?_
    refine V_iadd hc dL_law_995 ?_
    refine V_sld hc hX hbl hbA (by omega) hL dL_law_996 ?_
    refine V_aload_n hc dL_law_997 3 rfl ?_
    refine V_callW (As := [.ref hB, .int (iI (0)), .int (iI ((xs (i + 2).toNat).toInt)), .int (iI ((xs (i + 3).toNat).toInt)), .ref oA]) (hh := [(0, 12, 15, 13)]) hc hG (pL1 _ _ _) (cls_node hl0 f0 hCW hI (by decide) (inR_x _) (inR_x _)) rfl gL_law_L_node rfl ⟨rfl, rfl⟩ ok_L_node ⟨Nat.le_of_ble_eq_true rfl, Nat.le_of_ble_eq_true rfl⟩ (Nat.le_of_ble_eq_true rfl) dL_law_998 ⟨by omega, by omega⟩ (fun r w hpo => ?_)
    obtain ⟨v, σ1, hrl, hCW1, hout⟩ := hpo
    obtain ⟨C1, f1⟩ := w
    have hrg := rl_rg hrl rg_node
    have hI1 : iv (B + 248) σ1 := iv_rl hI (fun v s h => by rw [h.2.2]; exact hI.mono (by omega)) hrl
    refine V_istore hc dL_law_1001 [(5, .int (iI r)), (0, .ref b), (1, .ref hB), (2, .ref hM), (3, .ref oA), (4, .int (iI i))] (Nat.le_of_ble_eq_true rfl) rfl ?_
    refine V_aload_n hc dL_law_1003 3 rfl ?_
    refine V_aload_n hc dL_law_1004 1 rfl ?_
    refine V_iload hc dL_law_1005 5 rfl ?_
    refine V_iconst hc dL_law_1007 ?_
    refine V_iadd hc dL_law_1008 ?_
    refine V_sld hc hX hbl hbA (by omega) hL dL_law_1009 ?_
    refine V_if_eq (X := True) (Y := False) (tgt := 1017) hc dL_law_1010 (by decide) ⟨inR_x _, fun _ => trivial, fun h => h hz⟩ (fun _ => ?_) (fun h => h.elim)
    refine V_iconst hc dL_law_1017 ?_
    refine V_aload_n hc dL_law_1018 1 rfl ?_
    refine V_iload hc dL_law_1019 5 rfl ?_
    refine V_iconst hc dL_law_1021 ?_
    refine V_iadd hc dL_law_1022 ?_
    refine V_sld hc hX hbl hbA (by omega) hL dL_law_1023 ?_
    refine V_aload_n hc dL_law_1024 1 rfl ?_
    refine V_iload hc dL_law_1025 5 rfl ?_
    refine V_iconst hc dL_law_1027 ?_
    refine V_iadd hc dL_law_1028 ?_
    refine V_sld hc hX hbl hbA (by omega) hL dL_law_1029 ?_
    refine V_callVI (As := [.int (iI (0)), .int (iI ((xs (i + 2).toNat).toInt)), .int (iI ((xs (i + 3).toNat).toInt))]) (wc := LM t hM a u) (wr := C1 ++ [aJ t oA 1 f1]) hc List.perm_append_comm rfl rfl (mdl_node hR hI hb (by decide) (inR_x _) (inR_x _)) rfl gL_law_X5_node rfl ⟨rfl, rfl⟩ ok_X5_node ⟨Nat.le_of_ble_eq_true rfl, Nat.le_of_ble_eq_true rfl⟩ (Nat.le_of_ble_eq_true rfl) dL_law_1030 ⟨by omega, by omega⟩ (fun r2 u2 hpo => ?_)
    obtain ⟨σ2, hrl2, hR2⟩ := hpo
    obtain ⟨e1, e2, e3⟩ := det_node hrl hrl2
    subst e2
    refine V_istore hc dL_law_1033 [(6, .int (iI r2)), (5, .int (iI r)), (0, .ref b), (1, .ref hB), (2, .ref hM), (3, .ref oA), (4, .int (iI i))] (Nat.le_of_ble_eq_true rfl) rfl ?_
    refine V_aload_n hc dL_law_1035 4 rfl ?_
    refine V_callVI (As := []) (wc := LM t hM a u2) (wr := C1 ++ [aJ t oA 1 f1]) hc (List.Perm.refl _) rfl rfl mdl_thrown rfl gL_law_X5_thrown rfl ⟨rfl, rfl⟩ ok_X5_thrown ⟨Nat.le_of_ble_eq_true rfl, Nat.le_of_ble_eq_true rfl⟩ (Nat.le_of_ble_eq_true rfl) dL_law_1036 ⟨by omega, by omega⟩ (fun r3 u3 hpo => ?_)
    refine V_pm (ws1 := [aJ t oA 1 f1] ++ (LM t hM a u2 ++ C1)) (pL2 _ _ _) ?_
    refine V_iload hc dL_law_1039 1 rfl ?_
    refine V_eqT (tgt := 1046) hc dL_law_1041 (by decide) (by rw [hpo, e1]) ?_
    refine V_iload hc dL_law_1046 1 rfl ?_
    refine V_if_ne (X := True) (Y := r = 0) (tgt := 1063) hc dL_law_1048 (by decide) ⟨by omega, fun _ => trivial, fun h => by omega⟩ (fun _ => ?_) (fun hr0 => ?_)
    · skip
      refine V_goto (tgt := 1651) hc dL_law_1063 (by decide) ?_
      refine V_lv [2, 3, 4, 5, 6] [(0, .ref b), (1, .ref hB), (2, .ref hM), (3, .ref oA), (4, .int (iI i))] rfl ?_
      exact V_widen (by omega) (by omega) (hK σ1 u2 C1 f1 hCW1 hR2 hI1)
    · skip
      refine V_aload_n hc dL_law_1051 5 rfl ?_
      refine V_iconst hc dL_law_1052 ?_
      refine V_lald hc 0 rfl dL_law_1053 ?_
      refine V_iload hc dL_law_1054 0 rfl ?_
      refine V_i2l hc dL_law_1056 ?_
      refine V_lcmpT hc dL_law_1057 ((hout hr0).trans (by rw [e3 hr0]; rfl)) ?_
      refine V_if_eq (X := True) (Y := False) (tgt := 1063) hc dL_law_1058 (by decide) ⟨by decide, fun _ => trivial, fun h => h rfl⟩ (fun _ => ?_) (fun h => h.elim)
      refine V_goto (tgt := 1651) hc dL_law_1063 (by decide) ?_
      refine V_lv [2, 3, 4, 5, 6] [(0, .ref b), (1, .ref hB), (2, .ref hM), (3, .ref oA), (4, .int (iI i))] rfl ?_
      exact V_widen (by omega) (by omega) (hK σ1 u2 C1 f1 hCW1 hR2 hI1)
  · skip
    refine V_aload_n hc dL_law_970 1 rfl ?_
    refine V_aload_n hc dL_law_971 0 rfl ?_
    refine V_iload hc dL_law_972 4 rfl ?_
    refine V_iconst hc dL_law_974 ?_
    refine V_iadd hc dL_law_975 ?_
    refine V_sld hc hX hbl hbA (by omega) hL dL_law_976 ?_
    refine V_if_eq (X := False) (Y := True) (tgt := 984) hc dL_law_977 (by decide) ⟨inR_x _, fun h => hz h, fun _ => trivial⟩ (fun h => h.elim) (fun _ => ?_)
    refine V_iconst hc dL_law_980 ?_
    refine V_goto (tgt := 985) hc dL_law_981 (by decide) ?_
    refine V_aload_n hc dL_law_985 0 rfl ?_
    refine V_iload hc dL_law_986 4 rfl ?_
    refine V_iconst hc dL_law_988 ?_
    refine V_iadd hc dL_law_989 ?_
    refine V_sld hc hX hbl hbA (by omega) hL dL_law_990 ?_
    refine V_aload_n hc dL_law_991 0 rfl ?_
    refine V_iload hc dL_law_992 4 rfl ?_
    refine V_iconst hc dL_law_994 ?_
    refine V_iadd hc dL_law_995 ?_
    refine V_sld hc hX hbl hbA (by omega) hL dL_law_996 ?_
    refine V_aload_n hc dL_law_997 3 rfl ?_
    refine V_callW (As := [.ref hB, .int (iI (1)), .int (iI ((xs (i + 2).toNat).toInt)), .int (iI ((xs (i + 3).toNat).toInt)), .ref oA]) (hh := [(0, 12, 15, 13)]) hc hG (pL1 _ _ _) (cls_node hl0 f0 hCW hI (by decide) (inR_x _) (inR_x _)) rfl gL_law_L_node rfl ⟨rfl, rfl⟩ ok_L_node ⟨Nat.le_of_ble_eq_true rfl, Nat.le_of_ble_eq_true rfl⟩ (Nat.le_of_ble_eq_true rfl) dL_law_998 ⟨by omega, by omega⟩ (fun r w hpo => ?_)
    obtain ⟨v, σ1, hrl, hCW1, hout⟩ := hpo
    obtain ⟨C1, f1⟩ := w
    have hrg := rl_rg hrl rg_node
    have hI1 : iv (B + 248) σ1 := iv_rl hI (fun v s h => by rw [h.2.2]; exact hI.mono (by omega)) hrl
    refine V_istore hc dL_law_1001 [(5, .int (iI r)), (0, .ref b), (1, .ref hB), (2, .ref hM), (3, .ref oA), (4, .int (iI i))] (Nat.le_of_ble_eq_true rfl) rfl ?_
    refine V_aload_n hc dL_law_1003 3 rfl ?_
    refine V_aload_n hc dL_law_1004 1 rfl ?_
    refine V_iload hc dL_law_1005 5 rfl ?_
    refine V_iconst hc dL_law_1007 ?_
    refine V_iadd hc dL_law_1008 ?_
    refine V_sld hc hX hbl hbA (by omega) hL dL_law_1009 ?_
    refine V_if_eq (X := False) (Y := True) (tgt := 1017) hc dL_law_1010 (by decide) ⟨inR_x _, fun h => hz h, fun _ => trivial⟩ (fun h => h.elim) (fun _ => ?_)
    refine V_iconst hc dL_law_1013 ?_
    refine V_goto (tgt := 1018) hc dL_law_1014 (by decide) ?_
    refine V_aload_n hc dL_law_1018 1 rfl ?_
    refine V_iload hc dL_law_1019 5 rfl ?_
    refine V_iconst hc dL_law_1021 ?_
    refine V_iadd hc dL_law_1022 ?_
    refine V_sld hc hX hbl hbA (by omega) hL dL_law_1023 ?_
    refine V_aload_n hc dL_law_1024 1 rfl ?_
    refine V_iload hc dL_law_1025 5 rfl ?_
    refine V_iconst hc dL_law_1027 ?_
    refine V_iadd hc dL_law_1028 ?_
    refine V_sld hc hX hbl hbA (by omega) hL dL_law_1029 ?_
    refine V_callVI (As := [.int (iI (1)), .int (iI ((xs (i + 2).toNat).toInt)), .int (iI ((xs (i + 3).toNat).toInt))]) (wc := LM t hM a u) (wr := C1 ++ [aJ t oA 1 f1]) hc List.perm_append_comm rfl rfl (mdl_node hR hI hb (by decide) (inR_x _) (inR_x _)) rfl gL_law_X5_node rfl ⟨rfl, rfl⟩ ok_X5_node ⟨Nat.le_of_ble_eq_true rfl, Nat.le_of_ble_eq_true rfl⟩ (Nat.le_of_ble_eq_true rfl) dL_law_1030 ⟨by omega, by omega⟩ (fun r2 u2 hpo => ?_)
    obtain ⟨σ2, hrl2, hR2⟩ := hpo
    obtain ⟨e1, e2, e3⟩ := det_node hrl hrl2
    subst e2
    refine V_istore hc dL_law_1033 [(6, .int (iI r2)), (5, .int (iI r)), (0, .ref b), (1, .ref hB), (2, .ref hM), (3, .ref oA), (4, .int (iI i))] (Nat.le_of_ble_eq_true rfl) rfl ?_
    refine V_aload_n hc dL_law_1035 4 rfl ?_
    refine V_callVI (As := []) (wc := LM t hM a u2) (wr := C1 ++ [aJ t oA 1 f1]) hc (List.Perm.refl _) rfl rfl mdl_thrown rfl gL_law_X5_thrown rfl ⟨rfl, rfl⟩ ok_X5_thrown ⟨Nat.le_of_ble_eq_true rfl, Nat.le_of_ble_eq_true rfl⟩ (Nat.le_of_ble_eq_true rfl) dL_law_1036 ⟨by omega, by omega⟩ (fun r3 u3 hpo => ?_)
    refine V_pm (ws1 := [aJ t oA 1 f1] ++ (LM t hM a u2 ++ C1)) (pL2 _ _ _) ?_
    refine V_iload hc dL_law_1039 1 rfl ?_
    refine V_eqT (tgt := 1046) hc dL_law_1041 (by decide) (by rw [hpo, e1]) ?_
    refine V_iload hc dL_law_1046 1 rfl ?_
    refine V_if_ne (X := True) (Y := r = 0) (tgt := 1063) hc dL_law_1048 (by decide) ⟨by omega, fun _ => trivial, fun h => by omega⟩ (fun _ => ?_) (fun hr0 => ?_)
    · skip
      refine V_goto (tgt := 1651) hc dL_law_1063 (by decide) ?_
      refine V_lv [2, 3, 4, 5, 6] [(0, .ref b), (1, .ref hB), (2, .ref hM), (3, .ref oA), (4, .int (iI i))] rfl ?_
      exact V_widen (by omega) (by omega) (hK σ1 u2 C1 f1 hCW1 hR2 hI1)
    · skip
      refine V_aload_n hc dL_law_1051 5 rfl ?_
      refine V_iconst hc dL_law_1052 ?_
      refine V_lald hc 0 rfl dL_law_1053 ?_
      refine V_iload hc dL_law_1054 0 rfl ?_
      refine V_i2l hc dL_law_1056 ?_
      refine V_lcmpT hc dL_law_1057 ((hout hr0).trans (by rw [e3 hr0]; rfl)) ?_
      refine V_if_eq (X := True) (Y := False) (tgt := 1063) hc dL_law_1058 (by decide) ⟨by decide, fun _ => trivial, fun h => h rfl⟩ (fun _ => ?_) (fun h => h.elim)
      refine V_goto (tgt := 1651) hc dL_law_1063 (by decide) ?_
      refine V_lv [2, 3, 4, 5, 6] [(0, .ref b), (1, .ref hB), (2, .ref hM), (3, .ref oA), (4, .int (iI i))] rfl ?_
      exact V_widen (by omega) (by omega) (hK σ1 u2 C1 f1 hCW1 hR2 hI1)
set_option maxHeartbeats 4000000 in
set_option maxRecDepth 100000 in
theorem case_path (hc : Cx p room_1 s m args meth c D t A 9 cL_law wsL_law RL) (hG : Gx s) (hl0 : l.stackTraces = false) {L : Nat} {xs : Nat → Int32} {b : Nat} (hX : va_X b L xs s s.heap) (hbl : b < s.heap.size) (hbA : ¬ A b) (hL : L ≤ 2048) {hB hM oA : Nat} {a : Nat → Nat} {u : Nat → Nat → Int} {σ : aW} {B : Int} {f0 : Nat → Int64} {wC : va_W} (hCW : CW t hB wC σ) (hR : MREL u σ) (hI : iv B σ) (hb : B ≤ 1000000) {i : Int} (hi : 0 ≤ i ∧ i + 4 ≤ (L : Int)) (hfit : cells + 2 ≤ room_1.cells ∧ slots + 12 ≤ room_1.slots)
    (hK : ∀ (σ' : aW) (u' : Nat → Nat → Int) (wC' : va_W) (f' : Nat → Int64), CW t hB wC' σ' → MREL u' σ' → iv (B + 248) σ' → V p l e room_1 s m args below meth c D A 9 (cells + 2) (slots + 12) Q 1651 [(0, .ref b), (1, .ref hB), (2, .ref hM), (3, .ref oA), (4, .int (iI i))] [] ([aJ t oA 1 f'] ++ (LM t hM a u' ++ wC'))) : V p l e room_1 s m args below meth c D A 9 cells slots Q 1066 [(0, .ref b), (1, .ref hB), (2, .ref hM), (3, .ref oA), (4, .int (iI i))] [] ([aJ t oA 1 f0] ++ (LM t hM a u ++ wC)) := by
  refine V_aload_n hc dL_law_1066 1 rfl ?_
  refine V_aload_n hc dL_law_1067 0 rfl ?_
  refine V_iload hc dL_law_1068 4 rfl ?_
  refine V_iconst hc dL_law_1070 ?_
  refine V_iadd hc dL_law_1071 ?_
  refine V_sld hc hX hbl hbA (by omega) hL dL_law_1072 ?_
  refine V_aload_n hc dL_law_1073 0 rfl ?_
  refine V_iload hc dL_law_1074 4 rfl ?_
  refine V_iconst hc dL_law_1076 ?_
  refine V_iadd hc dL_law_1077 ?_
  refine V_sld hc hX hbl hbA (by omega) hL dL_law_1078 ?_
  refine V_aload_n hc dL_law_1079 3 rfl ?_
  refine V_callW (As := [.ref hB, .int (iI ((xs (i + 1).toNat).toInt)), .int (iI ((xs (i + 2).toNat).toInt)), .ref oA]) (hh := [(0, 10, 13, 13)]) hc hG (pL1 _ _ _) (cls_path hl0 f0 hCW hI (inR_x _) (inR_x _)) rfl gL_law_L_path rfl ⟨rfl, rfl⟩ ok_L_path ⟨Nat.le_of_ble_eq_true rfl, Nat.le_of_ble_eq_true rfl⟩ (Nat.le_of_ble_eq_true rfl) dL_law_1080 ⟨by omega, by omega⟩ (fun r w hpo => ?_)
  obtain ⟨v, σ1, hrl, hCW1, hout⟩ := hpo
  obtain ⟨C1, f1⟩ := w
  have hrg := rl_rg hrl rg_path
  have hI1 : iv (B + 248) σ1 := iv_rl hI (fun v s h => by rw [h.2.2]; exact hI.mono (by omega)) hrl
  refine V_istore hc dL_law_1083 [(5, .int (iI r)), (0, .ref b), (1, .ref hB), (2, .ref hM), (3, .ref oA), (4, .int (iI i))] (Nat.le_of_ble_eq_true rfl) rfl ?_
  refine V_aload_n hc dL_law_1085 3 rfl ?_
  refine V_aload_n hc dL_law_1086 1 rfl ?_
  refine V_iload hc dL_law_1087 5 rfl ?_
  refine V_iconst hc dL_law_1089 ?_
  refine V_iadd hc dL_law_1090 ?_
  refine V_sld hc hX hbl hbA (by omega) hL dL_law_1091 ?_
  refine V_aload_n hc dL_law_1092 1 rfl ?_
  refine V_iload hc dL_law_1093 5 rfl ?_
  refine V_iconst hc dL_law_1095 ?_
  refine V_iadd hc dL_law_1096 ?_
  refine V_sld hc hX hbl hbA (by omega) hL dL_law_1097 ?_
  refine V_callVI (As := [.int (iI ((xs (i + 1).toNat).toInt)), .int (iI ((xs (i + 2).toNat).toInt))]) (wc := LM t hM a u) (wr := C1 ++ [aJ t oA 1 f1]) hc List.perm_append_comm rfl rfl (mdl_path hR hI hb (inR_x _) (inR_x _)) rfl gL_law_X5_path rfl ⟨rfl, rfl⟩ ok_X5_path ⟨Nat.le_of_ble_eq_true rfl, Nat.le_of_ble_eq_true rfl⟩ (Nat.le_of_ble_eq_true rfl) dL_law_1098 ⟨by omega, by omega⟩ (fun r2 u2 hpo => ?_)
  obtain ⟨σ2, hrl2, hR2⟩ := hpo
  obtain ⟨e1, e2, e3⟩ := det_path hrl hrl2
  subst e2
  refine V_istore hc dL_law_1101 [(6, .int (iI r2)), (5, .int (iI r)), (0, .ref b), (1, .ref hB), (2, .ref hM), (3, .ref oA), (4, .int (iI i))] (Nat.le_of_ble_eq_true rfl) rfl ?_
  refine V_aload_n hc dL_law_1103 4 rfl ?_
  refine V_callVI (As := []) (wc := LM t hM a u2) (wr := C1 ++ [aJ t oA 1 f1]) hc (List.Perm.refl _) rfl rfl mdl_thrown rfl gL_law_X5_thrown rfl ⟨rfl, rfl⟩ ok_X5_thrown ⟨Nat.le_of_ble_eq_true rfl, Nat.le_of_ble_eq_true rfl⟩ (Nat.le_of_ble_eq_true rfl) dL_law_1104 ⟨by omega, by omega⟩ (fun r3 u3 hpo => ?_)
  refine V_pm (ws1 := [aJ t oA 1 f1] ++ (LM t hM a u2 ++ C1)) (pL2 _ _ _) ?_
  refine V_iload hc dL_law_1107 1 rfl ?_
  refine V_eqT (tgt := 1114) hc dL_law_1109 (by decide) (by rw [hpo, e1]) ?_
  refine V_iload hc dL_law_1114 1 rfl ?_
  refine V_if_ne (X := True) (Y := r = 0) (tgt := 1131) hc dL_law_1116 (by decide) ⟨by omega, fun _ => trivial, fun h => by omega⟩ (fun _ => ?_) (fun hr0 => ?_)
  · skip
    refine V_goto (tgt := 1651) hc dL_law_1131 (by decide) ?_
    refine V_lv [2, 3, 4, 5, 6] [(0, .ref b), (1, .ref hB), (2, .ref hM), (3, .ref oA), (4, .int (iI i))] rfl ?_
    exact V_widen (by omega) (by omega) (hK σ1 u2 C1 f1 hCW1 hR2 hI1)
  · skip
    refine V_aload_n hc dL_law_1119 5 rfl ?_
    refine V_iconst hc dL_law_1120 ?_
    refine V_lald hc 0 rfl dL_law_1121 ?_
    refine V_iload hc dL_law_1122 0 rfl ?_
    refine V_i2l hc dL_law_1124 ?_
    refine V_lcmpT hc dL_law_1125 ((hout hr0).trans (by rw [e3 hr0]; rfl)) ?_
    refine V_if_eq (X := True) (Y := False) (tgt := 1131) hc dL_law_1126 (by decide) ⟨by decide, fun _ => trivial, fun h => h rfl⟩ (fun _ => ?_) (fun h => h.elim)
    refine V_goto (tgt := 1651) hc dL_law_1131 (by decide) ?_
    refine V_lv [2, 3, 4, 5, 6] [(0, .ref b), (1, .ref hB), (2, .ref hM), (3, .ref oA), (4, .int (iI i))] rfl ?_
    exact V_widen (by omega) (by omega) (hK σ1 u2 C1 f1 hCW1 hR2 hI1)
set_option maxHeartbeats 4000000 in
set_option maxRecDepth 100000 in
theorem case_tree (hc : Cx p room_1 s m args meth c D t A 9 cL_law wsL_law RL) (hG : Gx s) (hl0 : l.stackTraces = false) {L : Nat} {xs : Nat → Int32} {b : Nat} (hX : va_X b L xs s s.heap) (hbl : b < s.heap.size) (hbA : ¬ A b) (hL : L ≤ 2048) {hB hM oA : Nat} {a : Nat → Nat} {u : Nat → Nat → Int} {σ : aW} {B : Int} {f0 : Nat → Int64} {wC : va_W} (hCW : CW t hB wC σ) (hR : MREL u σ) (hI : iv B σ) (hb : B ≤ 1000000) {i : Int} (hi : 0 ≤ i ∧ i + 4 ≤ (L : Int)) (hfit : cells + 2 ≤ room_1.cells ∧ slots + 12 ≤ room_1.slots)
    (hK : ∀ (σ' : aW) (u' : Nat → Nat → Int) (wC' : va_W) (f' : Nat → Int64), CW t hB wC' σ' → MREL u' σ' → iv (B + 248) σ' → V p l e room_1 s m args below meth c D A 9 (cells + 2) (slots + 12) Q 1651 [(0, .ref b), (1, .ref hB), (2, .ref hM), (3, .ref oA), (4, .int (iI i))] [] ([aJ t oA 1 f'] ++ (LM t hM a u' ++ wC'))) : V p l e room_1 s m args below meth c D A 9 cells slots Q 1134 [(0, .ref b), (1, .ref hB), (2, .ref hM), (3, .ref oA), (4, .int (iI i))] [] ([aJ t oA 1 f0] ++ (LM t hM a u ++ wC)) := by
  by_cases hz : (xs (i + 1).toNat).toInt = 0
  · skip
    refine V_aload_n hc dL_law_1134 1 rfl ?_
    refine V_aload_n hc dL_law_1135 0 rfl ?_
    refine V_iload hc dL_law_1136 4 rfl ?_
    refine V_iconst hc dL_law_1138 ?_
    refine V_iadd hc dL_law_1139 ?_
    refine V_sld hc hX hbl hbA (by omega) hL dL_law_1140 ?_
    refine V_if_eq (X := True) (Y := False) (tgt := 1148) hc dL_law_1141 (by decide) ⟨inR_x _, fun _ => trivial, fun h => h hz⟩ (fun _ => ?_) (fun h => h.elim)
    refine V_iconst hc dL_law_1148 ?_
    refine V_aload_n hc dL_law_1149 0 rfl ?_
    refine V_iload hc dL_law_1150 4 rfl ?_
    refine V_iconst hc dL_law_1152 ?_
    refine V_iadd hc dL_law_1153 ?_
    refine V_sld hc hX hbl hbA (by omega) hL dL_law_1154 ?_
    refine V_aload_n hc dL_law_1155 3 rfl ?_
    refine V_callW (As := [.ref hB, .int (iI (0)), .int (iI ((xs (i + 2).toNat).toInt)), .ref oA]) (hh := [(0, 10, 13, 13)]) hc hG (pL1 _ _ _) (cls_tree hl0 f0 hCW hI (by decide) (inR_x _)) rfl gL_law_L_tree rfl ⟨rfl, rfl⟩ ok_L_tree ⟨Nat.le_of_ble_eq_true rfl, Nat.le_of_ble_eq_true rfl⟩ (Nat.le_of_ble_eq_true rfl) dL_law_1156 ⟨by omega, by omega⟩ (fun r w hpo => ?_)
    obtain ⟨v, σ1, hrl, hCW1, hout⟩ := hpo
    obtain ⟨C1, f1⟩ := w
    have hrg := rl_rg hrl rg_tree
    have hI1 : iv (B + 248) σ1 := iv_rl hI (fun v s h => by rw [h.2.2]; exact hI.mono (by omega)) hrl
    refine V_istore hc dL_law_1159 [(5, .int (iI r)), (0, .ref b), (1, .ref hB), (2, .ref hM), (3, .ref oA), (4, .int (iI i))] (Nat.le_of_ble_eq_true rfl) rfl ?_
    refine V_aload_n hc dL_law_1161 3 rfl ?_
    refine V_aload_n hc dL_law_1162 1 rfl ?_
    refine V_iload hc dL_law_1163 5 rfl ?_
    refine V_iconst hc dL_law_1165 ?_
    refine V_iadd hc dL_law_1166 ?_
    refine V_sld hc hX hbl hbA (by omega) hL dL_law_1167 ?_
    refine V_if_eq (X := True) (Y := False) (tgt := 1175) hc dL_law_1168 (by decide) ⟨inR_x _, fun _ => trivial, fun h => h hz⟩ (fun _ => ?_) (fun h => h.elim)
    refine V_iconst hc dL_law_1175 ?_
    refine V_aload_n hc dL_law_1176 1 rfl ?_
    refine V_iload hc dL_law_1177 5 rfl ?_
    refine V_iconst hc dL_law_1179 ?_
    refine V_iadd hc dL_law_1180 ?_
    refine V_sld hc hX hbl hbA (by omega) hL dL_law_1181 ?_
    refine V_callVI (As := [.int (iI (0)), .int (iI ((xs (i + 2).toNat).toInt))]) (wc := LM t hM a u) (wr := C1 ++ [aJ t oA 1 f1]) hc List.perm_append_comm rfl rfl (mdl_tree hR hI hb (by decide) (inR_x _)) rfl gL_law_X5_tree rfl ⟨rfl, rfl⟩ ok_X5_tree ⟨Nat.le_of_ble_eq_true rfl, Nat.le_of_ble_eq_true rfl⟩ (Nat.le_of_ble_eq_true rfl) dL_law_1182 ⟨by omega, by omega⟩ (fun r2 u2 hpo => ?_)
    obtain ⟨σ2, hrl2, hR2⟩ := hpo
    obtain ⟨e1, e2, e3⟩ := det_tree hrl hrl2
    subst e2
    refine V_istore hc dL_law_1185 [(6, .int (iI r2)), (5, .int (iI r)), (0, .ref b), (1, .ref hB), (2, .ref hM), (3, .ref oA), (4, .int (iI i))] (Nat.le_of_ble_eq_true rfl) rfl ?_
    refine V_aload_n hc dL_law_1187 4 rfl ?_
    refine V_callVI (As := []) (wc := LM t hM a u2) (wr := C1 ++ [aJ t oA 1 f1]) hc (List.Perm.refl _) rfl rfl mdl_thrown rfl gL_law_X5_thrown rfl ⟨rfl, rfl⟩ ok_X5_thrown ⟨Nat.le_of_ble_eq_true rfl, Nat.le_of_ble_eq_true rfl⟩ (Nat.le_of_ble_eq_true rfl) dL_law_1188 ⟨by omega, by omega⟩ (fun r3 u3 hpo => ?_)
    refine V_pm (ws1 := [aJ t oA 1 f1] ++ (LM t hM a u2 ++ C1)) (pL2 _ _ _) ?_
    refine V_iload hc dL_law_1191 1 rfl ?_
    refine V_eqT (tgt := 1198) hc dL_law_1193 (by decide) (by rw [hpo, e1]) ?_
    refine V_iload hc dL_law_1198 1 rfl ?_
    refine V_if_ne (X := True) (Y := r = 0) (tgt := 1215) hc dL_law_1200 (by decide) ⟨by omega, fun _ => trivial, fun h => by omega⟩ (fun _ => ?_) (fun hr0 => ?_)
    · skip
      refine V_goto (tgt := 1651) hc dL_law_1215 (by decide) ?_
      refine V_lv [2, 3, 4, 5, 6] [(0, .ref b), (1, .ref hB), (2, .ref hM), (3, .ref oA), (4, .int (iI i))] rfl ?_
      exact V_widen (by omega) (by omega) (hK σ1 u2 C1 f1 hCW1 hR2 hI1)
    · skip
      refine V_aload_n hc dL_law_1203 5 rfl ?_
      refine V_iconst hc dL_law_1204 ?_
      refine V_lald hc 0 rfl dL_law_1205 ?_
      refine V_iload hc dL_law_1206 0 rfl ?_
      refine V_i2l hc dL_law_1208 ?_
      refine V_lcmpT hc dL_law_1209 ((hout hr0).trans (by rw [e3 hr0]; rfl)) ?_
      refine V_if_eq (X := True) (Y := False) (tgt := 1215) hc dL_law_1210 (by decide) ⟨by decide, fun _ => trivial, fun h => h rfl⟩ (fun _ => ?_) (fun h => h.elim)
      refine V_goto (tgt := 1651) hc dL_law_1215 (by decide) ?_
      refine V_lv [2, 3, 4, 5, 6] [(0, .ref b), (1, .ref hB), (2, .ref hM), (3, .ref oA), (4, .int (iI i))] rfl ?_
      exact V_widen (by omega) (by omega) (hK σ1 u2 C1 f1 hCW1 hR2 hI1)
  · skip
    refine V_aload_n hc dL_law_1134 1 rfl ?_
    refine V_aload_n hc dL_law_1135 0 rfl ?_
    refine V_iload hc dL_law_1136 4 rfl ?_
    refine V_iconst hc dL_law_1138 ?_
    refine V_iadd hc dL_law_1139 ?_
    refine V_sld hc hX hbl hbA (by omega) hL dL_law_1140 ?_
    refine V_if_eq (X := False) (Y := True) (tgt := 1148) hc dL_law_1141 (by decide) ⟨inR_x _, fun h => hz h, fun _ => trivial⟩ (fun h => h.elim) (fun _ => ?_)
    refine V_iconst hc dL_law_1144 ?_
    refine V_goto (tgt := 1149) hc dL_law_1145 (by decide) ?_
    refine V_aload_n hc dL_law_1149 0 rfl ?_
    refine V_iload hc dL_law_1150 4 rfl ?_
    refine V_iconst hc dL_law_1152 ?_
    refine V_iadd hc dL_law_1153 ?_
    refine V_sld hc hX hbl hbA (by omega) hL dL_law_1154 ?_
    refine V_aload_n hc dL_law_1155 3 rfl ?_
    refine V_callW (As := [.ref hB, .int (iI (1)), .int (iI ((xs (i + 2).toNat).toInt)), .ref oA]) (hh := [(0, 10, 13, 13)]) hc hG (pL1 _ _ _) (cls_tree hl0 f0 hCW hI (by decide) (inR_x _)) rfl gL_law_L_tree rfl ⟨rfl, rfl⟩ ok_L_tree ⟨Nat.le_of_ble_eq_true rfl, Nat.le_of_ble_eq_true rfl⟩ (Nat.le_of_ble_eq_true rfl) dL_law_1156 ⟨by omega, by omega⟩ (fun r w hpo => ?_)
    obtain ⟨v, σ1, hrl, hCW1, hout⟩ := hpo
    obtain ⟨C1, f1⟩ := w
    have hrg := rl_rg hrl rg_tree
    have hI1 : iv (B + 248) σ1 := iv_rl hI (fun v s h => by rw [h.2.2]; exact hI.mono (by omega)) hrl
    refine V_istore hc dL_law_1159 [(5, .int (iI r)), (0, .ref b), (1, .ref hB), (2, .ref hM), (3, .ref oA), (4, .int (iI i))] (Nat.le_of_ble_eq_true rfl) rfl ?_
    refine V_aload_n hc dL_law_1161 3 rfl ?_
    refine V_aload_n hc dL_law_1162 1 rfl ?_
    refine V_iload hc dL_law_1163 5 rfl ?_
    refine V_iconst hc dL_law_1165 ?_
    refine V_iadd hc dL_law_1166 ?_
    refine V_sld hc hX hbl hbA (by omega) hL dL_law_1167 ?_
    refine V_if_eq (X := False) (Y := True) (tgt := 1175) hc dL_law_1168 (by decide) ⟨inR_x _, fun h => hz h, fun _ => trivial⟩ (fun h => h.elim) (fun _ => ?_)
    refine V_iconst hc dL_law_1171 ?_
    refine V_goto (tgt := 1176) hc dL_law_1172 (by decide) ?_
    refine V_aload_n hc dL_law_1176 1 rfl ?_
    refine V_iload hc dL_law_1177 5 rfl ?_
    refine V_iconst hc dL_law_1179 ?_
    refine V_iadd hc dL_law_1180 ?_
    refine V_sld hc hX hbl hbA (by omega) hL dL_law_1181 ?_
    refine V_callVI (As := [.int (iI (1)), .int (iI ((xs (i + 2).toNat).toInt))]) (wc := LM t hM a u) (wr := C1 ++ [aJ t oA 1 f1]) hc List.perm_append_comm rfl rfl (mdl_tree hR hI hb (by decide) (inR_x _)) rfl gL_law_X5_tree rfl ⟨rfl, rfl⟩ ok_X5_tree ⟨Nat.le_of_ble_eq_true rfl, Nat.le_of_ble_eq_true rfl⟩ (Nat.le_of_ble_eq_true rfl) dL_law_1182 ⟨by omega, by omega⟩ (fun r2 u2 hpo => ?_)
    obtain ⟨σ2, hrl2, hR2⟩ := hpo
    obtain ⟨e1, e2, e3⟩ := det_tree hrl hrl2
    subst e2
    refine V_istore hc dL_law_1185 [(6, .int (iI r2)), (5, .int (iI r)), (0, .ref b), (1, .ref hB), (2, .ref hM), (3, .ref oA), (4, .int (iI i))] (Nat.le_of_ble_eq_true rfl) rfl ?_
    refine V_aload_n hc dL_law_1187 4 rfl ?_
    refine V_callVI (As := []) (wc := LM t hM a u2) (wr := C1 ++ [aJ t oA 1 f1]) hc (List.Perm.refl _) rfl rfl mdl_thrown rfl gL_law_X5_thrown rfl ⟨rfl, rfl⟩ ok_X5_thrown ⟨Nat.le_of_ble_eq_true rfl, Nat.le_of_ble_eq_true rfl⟩ (Nat.le_of_ble_eq_true rfl) dL_law_1188 ⟨by omega, by omega⟩ (fun r3 u3 hpo => ?_)
    refine V_pm (ws1 := [aJ t oA 1 f1] ++ (LM t hM a u2 ++ C1)) (pL2 _ _ _) ?_
    refine V_iload hc dL_law_1191 1 rfl ?_
    refine V_eqT (tgt := 1198) hc dL_law_1193 (by decide) (by rw [hpo, e1]) ?_
    refine V_iload hc dL_law_1198 1 rfl ?_
    refine V_if_ne (X := True) (Y := r = 0) (tgt := 1215) hc dL_law_1200 (by decide) ⟨by omega, fun _ => trivial, fun h => by omega⟩ (fun _ => ?_) (fun hr0 => ?_)
    · skip
      refine V_goto (tgt := 1651) hc dL_law_1215 (by decide) ?_
      refine V_lv [2, 3, 4, 5, 6] [(0, .ref b), (1, .ref hB), (2, .ref hM), (3, .ref oA), (4, .int (iI i))] rfl ?_
      exact V_widen (by omega) (by omega) (hK σ1 u2 C1 f1 hCW1 hR2 hI1)
    · skip
      refine V_aload_n hc dL_law_1203 5 rfl ?_
      refine V_iconst hc dL_law_1204 ?_
      refine V_lald hc 0 rfl dL_law_1205 ?_
      refine V_iload hc dL_law_1206 0 rfl ?_
      refine V_i2l hc dL_law_1208 ?_
      refine V_lcmpT hc dL_law_1209 ((hout hr0).trans (by rw [e3 hr0]; rfl)) ?_
      refine V_if_eq (X := True) (Y := False) (tgt := 1215) hc dL_law_1210 (by decide) ⟨by decide, fun _ => trivial, fun h => h rfl⟩ (fun _ => ?_) (fun h => h.elim)
      refine V_goto (tgt := 1651) hc dL_law_1215 (by decide) ?_
      refine V_lv [2, 3, 4, 5, 6] [(0, .ref b), (1, .ref hB), (2, .ref hM), (3, .ref oA), (4, .int (iI i))] rfl ?_
      exact V_widen (by omega) (by omega) (hK σ1 u2 C1 f1 hCW1 hR2 hI1)
set_option maxHeartbeats 4000000 in
set_option maxRecDepth 100000 in
theorem case_rebuild (hc : Cx p room_1 s m args meth c D t A 9 cL_law wsL_law RL) (hG : Gx s) (hl0 : l.stackTraces = false) {L : Nat} {xs : Nat → Int32} {b : Nat} (hX : va_X b L xs s s.heap) (hbl : b < s.heap.size) (hbA : ¬ A b) (hL : L ≤ 2048) {hB hM oA : Nat} {a : Nat → Nat} {u : Nat → Nat → Int} {σ : aW} {B : Int} {f0 : Nat → Int64} {wC : va_W} (hCW : CW t hB wC σ) (hR : MREL u σ) (hI : iv B σ) (hb : B ≤ 1000000) {i : Int} (hi : 0 ≤ i ∧ i + 4 ≤ (L : Int)) (hfit : cells + 2 ≤ room_1.cells ∧ slots + 12 ≤ room_1.slots)
    (hK : ∀ (σ' : aW) (u' : Nat → Nat → Int) (wC' : va_W) (f' : Nat → Int64), CW t hB wC' σ' → MREL u' σ' → iv (B + 248) σ' → V p l e room_1 s m args below meth c D A 9 (cells + 2) (slots + 12) Q 1651 [(0, .ref b), (1, .ref hB), (2, .ref hM), (3, .ref oA), (4, .int (iI i))] [] ([aJ t oA 1 f'] ++ (LM t hM a u' ++ wC'))) : V p l e room_1 s m args below meth c D A 9 cells slots Q 1218 [(0, .ref b), (1, .ref hB), (2, .ref hM), (3, .ref oA), (4, .int (iI i))] [] ([aJ t oA 1 f0] ++ (LM t hM a u ++ wC)) := by
  refine V_aload_n hc dL_law_1218 1 rfl ?_
  refine V_aload_n hc dL_law_1219 0 rfl ?_
  refine V_iload hc dL_law_1220 4 rfl ?_
  refine V_iconst hc dL_law_1222 ?_
  refine V_iadd hc dL_law_1223 ?_
  refine V_sld hc hX hbl hbA (by omega) hL dL_law_1224 ?_
  refine V_aload_n hc dL_law_1225 3 rfl ?_
  refine V_callW (As := [.ref hB, .int (iI ((xs (i + 1).toNat).toInt)), .ref oA]) (hh := [(0, 9, 12, 13)]) hc hG (pL1 _ _ _) (cls_rebuild hl0 f0 hCW hI (inR_x _)) rfl gL_law_L_rebuild rfl ⟨rfl, rfl⟩ ok_L_rebuild ⟨Nat.le_of_ble_eq_true rfl, Nat.le_of_ble_eq_true rfl⟩ (Nat.le_of_ble_eq_true rfl) dL_law_1226 ⟨by omega, by omega⟩ (fun r w hpo => ?_)
  obtain ⟨v, σ1, hrl, hCW1, hout⟩ := hpo
  obtain ⟨C1, f1⟩ := w
  have hrg := rl_rg hrl rg_rebuild
  have hI1 : iv (B + 248) σ1 := iv_rl hI (fun v s h => by rw [h.2.2]; exact hI.mono (by omega)) hrl
  refine V_istore hc dL_law_1229 [(5, .int (iI r)), (0, .ref b), (1, .ref hB), (2, .ref hM), (3, .ref oA), (4, .int (iI i))] (Nat.le_of_ble_eq_true rfl) rfl ?_
  refine V_aload_n hc dL_law_1231 3 rfl ?_
  refine V_aload_n hc dL_law_1232 1 rfl ?_
  refine V_iload hc dL_law_1233 5 rfl ?_
  refine V_iconst hc dL_law_1235 ?_
  refine V_iadd hc dL_law_1236 ?_
  refine V_sld hc hX hbl hbA (by omega) hL dL_law_1237 ?_
  refine V_callVI (As := [.int (iI ((xs (i + 1).toNat).toInt))]) (wc := LM t hM a u) (wr := C1 ++ [aJ t oA 1 f1]) hc List.perm_append_comm rfl rfl (mdl_rebuild hR hI hb (inR_x _)) rfl gL_law_X5_rebuild rfl ⟨rfl, rfl⟩ ok_X5_rebuild ⟨Nat.le_of_ble_eq_true rfl, Nat.le_of_ble_eq_true rfl⟩ (Nat.le_of_ble_eq_true rfl) dL_law_1238 ⟨by omega, by omega⟩ (fun r2 u2 hpo => ?_)
  obtain ⟨σ2, hrl2, hR2⟩ := hpo
  obtain ⟨e1, e2, e3⟩ := det_rebuild hrl hrl2
  subst e2
  refine V_istore hc dL_law_1241 [(6, .int (iI r2)), (5, .int (iI r)), (0, .ref b), (1, .ref hB), (2, .ref hM), (3, .ref oA), (4, .int (iI i))] (Nat.le_of_ble_eq_true rfl) rfl ?_
  refine V_aload_n hc dL_law_1243 4 rfl ?_
  refine V_callVI (As := []) (wc := LM t hM a u2) (wr := C1 ++ [aJ t oA 1 f1]) hc (List.Perm.refl _) rfl rfl mdl_thrown rfl gL_law_X5_thrown rfl ⟨rfl, rfl⟩ ok_X5_thrown ⟨Nat.le_of_ble_eq_true rfl, Nat.le_of_ble_eq_true rfl⟩ (Nat.le_of_ble_eq_true rfl) dL_law_1244 ⟨by omega, by omega⟩ (fun r3 u3 hpo => ?_)
  refine V_pm (ws1 := [aJ t oA 1 f1] ++ (LM t hM a u2 ++ C1)) (pL2 _ _ _) ?_
  refine V_iload hc dL_law_1247 1 rfl ?_
  refine V_eqT (tgt := 1254) hc dL_law_1249 (by decide) (by rw [hpo, e1]) ?_
  refine V_iload hc dL_law_1254 1 rfl ?_
  refine V_if_ne (X := True) (Y := r = 0) (tgt := 1271) hc dL_law_1256 (by decide) ⟨by omega, fun _ => trivial, fun h => by omega⟩ (fun _ => ?_) (fun hr0 => ?_)
  · skip
    refine V_goto (tgt := 1651) hc dL_law_1271 (by decide) ?_
    refine V_lv [2, 3, 4, 5, 6] [(0, .ref b), (1, .ref hB), (2, .ref hM), (3, .ref oA), (4, .int (iI i))] rfl ?_
    exact V_widen (by omega) (by omega) (hK σ1 u2 C1 f1 hCW1 hR2 hI1)
  · skip
    refine V_aload_n hc dL_law_1259 5 rfl ?_
    refine V_iconst hc dL_law_1260 ?_
    refine V_lald hc 0 rfl dL_law_1261 ?_
    refine V_iload hc dL_law_1262 0 rfl ?_
    refine V_i2l hc dL_law_1264 ?_
    refine V_lcmpT hc dL_law_1265 ((hout hr0).trans (by rw [e3 hr0]; rfl)) ?_
    refine V_if_eq (X := True) (Y := False) (tgt := 1271) hc dL_law_1266 (by decide) ⟨by decide, fun _ => trivial, fun h => h rfl⟩ (fun _ => ?_) (fun h => h.elim)
    refine V_goto (tgt := 1651) hc dL_law_1271 (by decide) ?_
    refine V_lv [2, 3, 4, 5, 6] [(0, .ref b), (1, .ref hB), (2, .ref hM), (3, .ref oA), (4, .int (iI i))] rfl ?_
    exact V_widen (by omega) (by omega) (hK σ1 u2 C1 f1 hCW1 hR2 hI1)
set_option maxHeartbeats 4000000 in
set_option maxRecDepth 100000 in
theorem case_queued (hc : Cx p room_1 s m args meth c D t A 9 cL_law wsL_law RL) (hG : Gx s) (hl0 : l.stackTraces = false) {L : Nat} {xs : Nat → Int32} {b : Nat} (hX : va_X b L xs s s.heap) (hbl : b < s.heap.size) (hbA : ¬ A b) (hL : L ≤ 2048) {hB hM oA : Nat} {a : Nat → Nat} {u : Nat → Nat → Int} {σ : aW} {B : Int} {f0 : Nat → Int64} {wC : va_W} (hCW : CW t hB wC σ) (hR : MREL u σ) (hI : iv B σ) (hb : B ≤ 1000000) {i : Int} (hi : 0 ≤ i ∧ i + 4 ≤ (L : Int)) (hfit : cells + 2 ≤ room_1.cells ∧ slots + 12 ≤ room_1.slots)
    (hK : ∀ (σ' : aW) (u' : Nat → Nat → Int) (wC' : va_W) (f' : Nat → Int64), CW t hB wC' σ' → MREL u' σ' → iv (B + 248) σ' → V p l e room_1 s m args below meth c D A 9 (cells + 2) (slots + 12) Q 1651 [(0, .ref b), (1, .ref hB), (2, .ref hM), (3, .ref oA), (4, .int (iI i))] [] ([aJ t oA 1 f'] ++ (LM t hM a u' ++ wC'))) : V p l e room_1 s m args below meth c D A 9 cells slots Q 1274 [(0, .ref b), (1, .ref hB), (2, .ref hM), (3, .ref oA), (4, .int (iI i))] [] ([aJ t oA 1 f0] ++ (LM t hM a u ++ wC)) := by
  refine V_aload_n hc dL_law_1274 1 rfl ?_
  refine V_aload_n hc dL_law_1275 0 rfl ?_
  refine V_iload hc dL_law_1276 4 rfl ?_
  refine V_iconst hc dL_law_1278 ?_
  refine V_iadd hc dL_law_1279 ?_
  refine V_sld hc hX hbl hbA (by omega) hL dL_law_1280 ?_
  refine V_aload_n hc dL_law_1281 3 rfl ?_
  refine V_callW (As := [.ref hB, .int (iI ((xs (i + 1).toNat).toInt)), .ref oA]) (hh := [(0, 9, 12, 13)]) hc hG (pL1 _ _ _) (cls_queued hl0 f0 hCW hI (inR_x _)) rfl gL_law_L_queued rfl ⟨rfl, rfl⟩ ok_L_queued ⟨Nat.le_of_ble_eq_true rfl, Nat.le_of_ble_eq_true rfl⟩ (Nat.le_of_ble_eq_true rfl) dL_law_1282 ⟨by omega, by omega⟩ (fun r w hpo => ?_)
  obtain ⟨v, σ1, hrl, hCW1, hout⟩ := hpo
  obtain ⟨C1, f1⟩ := w
  have hrg := rl_rg hrl rg_queued
  have hI1 : iv (B + 248) σ1 := iv_rl hI (fun v s h => by rw [h.2.2]; exact hI.mono (by omega)) hrl
  refine V_istore hc dL_law_1285 [(5, .int (iI r)), (0, .ref b), (1, .ref hB), (2, .ref hM), (3, .ref oA), (4, .int (iI i))] (Nat.le_of_ble_eq_true rfl) rfl ?_
  refine V_aload_n hc dL_law_1287 3 rfl ?_
  refine V_aload_n hc dL_law_1288 1 rfl ?_
  refine V_iload hc dL_law_1289 5 rfl ?_
  refine V_iconst hc dL_law_1291 ?_
  refine V_iadd hc dL_law_1292 ?_
  refine V_sld hc hX hbl hbA (by omega) hL dL_law_1293 ?_
  refine V_callVI (As := [.int (iI ((xs (i + 1).toNat).toInt))]) (wc := LM t hM a u) (wr := C1 ++ [aJ t oA 1 f1]) hc List.perm_append_comm rfl rfl (mdl_queued hR hI hb (inR_x _)) rfl gL_law_X5_queued rfl ⟨rfl, rfl⟩ ok_X5_queued ⟨Nat.le_of_ble_eq_true rfl, Nat.le_of_ble_eq_true rfl⟩ (Nat.le_of_ble_eq_true rfl) dL_law_1294 ⟨by omega, by omega⟩ (fun r2 u2 hpo => ?_)
  obtain ⟨σ2, hrl2, hR2⟩ := hpo
  obtain ⟨e1, e2, e3⟩ := det_queued hrl hrl2
  subst e2
  refine V_istore hc dL_law_1297 [(6, .int (iI r2)), (5, .int (iI r)), (0, .ref b), (1, .ref hB), (2, .ref hM), (3, .ref oA), (4, .int (iI i))] (Nat.le_of_ble_eq_true rfl) rfl ?_
  refine V_aload_n hc dL_law_1299 4 rfl ?_
  refine V_callVI (As := []) (wc := LM t hM a u2) (wr := C1 ++ [aJ t oA 1 f1]) hc (List.Perm.refl _) rfl rfl mdl_thrown rfl gL_law_X5_thrown rfl ⟨rfl, rfl⟩ ok_X5_thrown ⟨Nat.le_of_ble_eq_true rfl, Nat.le_of_ble_eq_true rfl⟩ (Nat.le_of_ble_eq_true rfl) dL_law_1300 ⟨by omega, by omega⟩ (fun r3 u3 hpo => ?_)
  refine V_pm (ws1 := [aJ t oA 1 f1] ++ (LM t hM a u2 ++ C1)) (pL2 _ _ _) ?_
  refine V_iload hc dL_law_1303 1 rfl ?_
  refine V_eqT (tgt := 1310) hc dL_law_1305 (by decide) (by rw [hpo, e1]) ?_
  refine V_iload hc dL_law_1310 1 rfl ?_
  refine V_if_ne (X := True) (Y := r = 0) (tgt := 1327) hc dL_law_1312 (by decide) ⟨by omega, fun _ => trivial, fun h => by omega⟩ (fun _ => ?_) (fun hr0 => ?_)
  · skip
    refine V_goto (tgt := 1651) hc dL_law_1327 (by decide) ?_
    refine V_lv [2, 3, 4, 5, 6] [(0, .ref b), (1, .ref hB), (2, .ref hM), (3, .ref oA), (4, .int (iI i))] rfl ?_
    exact V_widen (by omega) (by omega) (hK σ1 u2 C1 f1 hCW1 hR2 hI1)
  · skip
    refine V_aload_n hc dL_law_1315 5 rfl ?_
    refine V_iconst hc dL_law_1316 ?_
    refine V_lald hc 0 rfl dL_law_1317 ?_
    refine V_iload hc dL_law_1318 0 rfl ?_
    refine V_i2l hc dL_law_1320 ?_
    refine V_lcmpT hc dL_law_1321 ((hout hr0).trans (by rw [e3 hr0]; rfl)) ?_
    refine V_if_eq (X := True) (Y := False) (tgt := 1327) hc dL_law_1322 (by decide) ⟨by decide, fun _ => trivial, fun h => h rfl⟩ (fun _ => ?_) (fun h => h.elim)
    refine V_goto (tgt := 1651) hc dL_law_1327 (by decide) ?_
    refine V_lv [2, 3, 4, 5, 6] [(0, .ref b), (1, .ref hB), (2, .ref hM), (3, .ref oA), (4, .int (iI i))] rfl ?_
    exact V_widen (by omega) (by omega) (hK σ1 u2 C1 f1 hCW1 hR2 hI1)
set_option maxHeartbeats 4000000 in
set_option maxRecDepth 100000 in
theorem case_count (hc : Cx p room_1 s m args meth c D t A 9 cL_law wsL_law RL) (hG : Gx s) (hl0 : l.stackTraces = false) {L : Nat} {xs : Nat → Int32} {b : Nat} (hX : va_X b L xs s s.heap) (hbl : b < s.heap.size) (hbA : ¬ A b) (hL : L ≤ 2048) {hB hM oA : Nat} {a : Nat → Nat} {u : Nat → Nat → Int} {σ : aW} {B : Int} {f0 : Nat → Int64} {wC : va_W} (hCW : CW t hB wC σ) (hR : MREL u σ) (hI : iv B σ) (hb : B ≤ 1000000) {i : Int} (hi : 0 ≤ i ∧ i + 4 ≤ (L : Int)) (hfit : cells + 2 ≤ room_1.cells ∧ slots + 12 ≤ room_1.slots)
    (hK : ∀ (σ' : aW) (u' : Nat → Nat → Int) (wC' : va_W) (f' : Nat → Int64), CW t hB wC' σ' → MREL u' σ' → iv (B + 248) σ' → V p l e room_1 s m args below meth c D A 9 (cells + 2) (slots + 12) Q 1651 [(0, .ref b), (1, .ref hB), (2, .ref hM), (3, .ref oA), (4, .int (iI i))] [] ([aJ t oA 1 f'] ++ (LM t hM a u' ++ wC'))) : V p l e room_1 s m args below meth c D A 9 cells slots Q 1330 [(0, .ref b), (1, .ref hB), (2, .ref hM), (3, .ref oA), (4, .int (iI i))] [] ([aJ t oA 1 f0] ++ (LM t hM a u ++ wC)) := by
  refine V_aload_n hc dL_law_1330 1 rfl ?_
  refine V_aload_n hc dL_law_1331 0 rfl ?_
  refine V_iload hc dL_law_1332 4 rfl ?_
  refine V_iconst hc dL_law_1334 ?_
  refine V_iadd hc dL_law_1335 ?_
  refine V_sld hc hX hbl hbA (by omega) hL dL_law_1336 ?_
  refine V_aload_n hc dL_law_1337 3 rfl ?_
  refine V_callW (As := [.ref hB, .int (iI ((xs (i + 1).toNat).toInt)), .ref oA]) (hh := [(0, 9, 12, 13)]) hc hG (pL1 _ _ _) (cls_count hl0 f0 hCW hI (inR_x _)) rfl gL_law_L_count rfl ⟨rfl, rfl⟩ ok_L_count ⟨Nat.le_of_ble_eq_true rfl, Nat.le_of_ble_eq_true rfl⟩ (Nat.le_of_ble_eq_true rfl) dL_law_1338 ⟨by omega, by omega⟩ (fun r w hpo => ?_)
  obtain ⟨v, σ1, hrl, hCW1, hout⟩ := hpo
  obtain ⟨C1, f1⟩ := w
  have hrg := rl_rg hrl rg_count
  have hI1 : iv (B + 248) σ1 := iv_rl hI (fun v s h => by rw [h.2.2]; exact hI.mono (by omega)) hrl
  refine V_istore hc dL_law_1341 [(5, .int (iI r)), (0, .ref b), (1, .ref hB), (2, .ref hM), (3, .ref oA), (4, .int (iI i))] (Nat.le_of_ble_eq_true rfl) rfl ?_
  refine V_aload_n hc dL_law_1343 3 rfl ?_
  refine V_aload_n hc dL_law_1344 1 rfl ?_
  refine V_iload hc dL_law_1345 5 rfl ?_
  refine V_iconst hc dL_law_1347 ?_
  refine V_iadd hc dL_law_1348 ?_
  refine V_sld hc hX hbl hbA (by omega) hL dL_law_1349 ?_
  refine V_callVI (As := [.int (iI ((xs (i + 1).toNat).toInt))]) (wc := LM t hM a u) (wr := C1 ++ [aJ t oA 1 f1]) hc List.perm_append_comm rfl rfl (mdl_count hR hI hb (inR_x _)) rfl gL_law_X5_count rfl ⟨rfl, rfl⟩ ok_X5_count ⟨Nat.le_of_ble_eq_true rfl, Nat.le_of_ble_eq_true rfl⟩ (Nat.le_of_ble_eq_true rfl) dL_law_1350 ⟨by omega, by omega⟩ (fun r2 u2 hpo => ?_)
  obtain ⟨σ2, hrl2, hR2⟩ := hpo
  obtain ⟨e1, e2, e3⟩ := det_count hrl hrl2
  subst e2
  refine V_istore hc dL_law_1353 [(6, .int (iI r2)), (5, .int (iI r)), (0, .ref b), (1, .ref hB), (2, .ref hM), (3, .ref oA), (4, .int (iI i))] (Nat.le_of_ble_eq_true rfl) rfl ?_
  refine V_aload_n hc dL_law_1355 4 rfl ?_
  refine V_callVI (As := []) (wc := LM t hM a u2) (wr := C1 ++ [aJ t oA 1 f1]) hc (List.Perm.refl _) rfl rfl mdl_thrown rfl gL_law_X5_thrown rfl ⟨rfl, rfl⟩ ok_X5_thrown ⟨Nat.le_of_ble_eq_true rfl, Nat.le_of_ble_eq_true rfl⟩ (Nat.le_of_ble_eq_true rfl) dL_law_1356 ⟨by omega, by omega⟩ (fun r3 u3 hpo => ?_)
  refine V_pm (ws1 := [aJ t oA 1 f1] ++ (LM t hM a u2 ++ C1)) (pL2 _ _ _) ?_
  refine V_iload hc dL_law_1359 1 rfl ?_
  refine V_eqT (tgt := 1366) hc dL_law_1361 (by decide) (by rw [hpo, e1]) ?_
  refine V_iload hc dL_law_1366 1 rfl ?_
  refine V_if_ne (X := True) (Y := r = 0) (tgt := 1383) hc dL_law_1368 (by decide) ⟨by omega, fun _ => trivial, fun h => by omega⟩ (fun _ => ?_) (fun hr0 => ?_)
  · skip
    refine V_goto (tgt := 1651) hc dL_law_1383 (by decide) ?_
    refine V_lv [2, 3, 4, 5, 6] [(0, .ref b), (1, .ref hB), (2, .ref hM), (3, .ref oA), (4, .int (iI i))] rfl ?_
    exact V_widen (by omega) (by omega) (hK σ1 u2 C1 f1 hCW1 hR2 hI1)
  · skip
    refine V_aload_n hc dL_law_1371 5 rfl ?_
    refine V_iconst hc dL_law_1372 ?_
    refine V_lald hc 0 rfl dL_law_1373 ?_
    refine V_iload hc dL_law_1374 0 rfl ?_
    refine V_i2l hc dL_law_1376 ?_
    refine V_lcmpT hc dL_law_1377 ((hout hr0).trans (by rw [e3 hr0]; rfl)) ?_
    refine V_if_eq (X := True) (Y := False) (tgt := 1383) hc dL_law_1378 (by decide) ⟨by decide, fun _ => trivial, fun h => h rfl⟩ (fun _ => ?_) (fun h => h.elim)
    refine V_goto (tgt := 1651) hc dL_law_1383 (by decide) ?_
    refine V_lv [2, 3, 4, 5, 6] [(0, .ref b), (1, .ref hB), (2, .ref hM), (3, .ref oA), (4, .int (iI i))] rfl ?_
    exact V_widen (by omega) (by omega) (hK σ1 u2 C1 f1 hCW1 hR2 hI1)
set_option maxHeartbeats 4000000 in
set_option maxRecDepth 100000 in
theorem case_setting (hc : Cx p room_1 s m args meth c D t A 9 cL_law wsL_law RL) (hG : Gx s) (hl0 : l.stackTraces = false) {L : Nat} {xs : Nat → Int32} {b : Nat} (hX : va_X b L xs s s.heap) (hbl : b < s.heap.size) (hbA : ¬ A b) (hL : L ≤ 2048) {hB hM oA : Nat} {a : Nat → Nat} {u : Nat → Nat → Int} {σ : aW} {B : Int} {f0 : Nat → Int64} {wC : va_W} (hCW : CW t hB wC σ) (hR : MREL u σ) (hI : iv B σ) (hb : B ≤ 1000000) {i : Int} (hi : 0 ≤ i ∧ i + 4 ≤ (L : Int)) (hfit : cells + 2 ≤ room_1.cells ∧ slots + 12 ≤ room_1.slots)
    (hK : ∀ (σ' : aW) (u' : Nat → Nat → Int) (wC' : va_W) (f' : Nat → Int64), CW t hB wC' σ' → MREL u' σ' → iv (B + 248) σ' → V p l e room_1 s m args below meth c D A 9 (cells + 2) (slots + 12) Q 1651 [(0, .ref b), (1, .ref hB), (2, .ref hM), (3, .ref oA), (4, .int (iI i))] [] ([aJ t oA 1 f'] ++ (LM t hM a u' ++ wC'))) : V p l e room_1 s m args below meth c D A 9 cells slots Q 1386 [(0, .ref b), (1, .ref hB), (2, .ref hM), (3, .ref oA), (4, .int (iI i))] [] ([aJ t oA 1 f0] ++ (LM t hM a u ++ wC)) := by
  refine V_aload_n hc dL_law_1386 1 rfl ?_
  refine V_aload_n hc dL_law_1387 0 rfl ?_
  refine V_iload hc dL_law_1388 4 rfl ?_
  refine V_iconst hc dL_law_1390 ?_
  refine V_iadd hc dL_law_1391 ?_
  refine V_sld hc hX hbl hbA (by omega) hL dL_law_1392 ?_
  refine V_aload_n hc dL_law_1393 3 rfl ?_
  refine V_callW (As := [.ref hB, .int (iI ((xs (i + 1).toNat).toInt)), .ref oA]) (hh := [(0, 9, 12, 31)]) hc hG (pL1 _ _ _) (cls_setting hl0 f0 hCW hI (inR_x _)) rfl gL_law_L_setting rfl ⟨rfl, rfl⟩ ok_L_setting ⟨Nat.le_of_ble_eq_true rfl, Nat.le_of_ble_eq_true rfl⟩ (Nat.le_of_ble_eq_true rfl) dL_law_1394 ⟨by omega, by omega⟩ (fun r w hpo => ?_)
  obtain ⟨v, σ1, hrl, hCW1, hout⟩ := hpo
  obtain ⟨C1, f1⟩ := w
  have hrg := rl_rg hrl rg_setting
  have hI1 : iv (B + 248) σ1 := iv_rl hI (fun v s h => by rw [h.2.2]; exact hI.mono (by omega)) hrl
  refine V_istore hc dL_law_1397 [(5, .int (iI r)), (0, .ref b), (1, .ref hB), (2, .ref hM), (3, .ref oA), (4, .int (iI i))] (Nat.le_of_ble_eq_true rfl) rfl ?_
  refine V_aload_n hc dL_law_1399 3 rfl ?_
  refine V_aload_n hc dL_law_1400 1 rfl ?_
  refine V_iload hc dL_law_1401 5 rfl ?_
  refine V_iconst hc dL_law_1403 ?_
  refine V_iadd hc dL_law_1404 ?_
  refine V_sld hc hX hbl hbA (by omega) hL dL_law_1405 ?_
  refine V_callVI (As := [.int (iI ((xs (i + 1).toNat).toInt))]) (wc := LM t hM a u) (wr := C1 ++ [aJ t oA 1 f1]) hc List.perm_append_comm rfl rfl (mdl_setting hR hI hb (inR_x _)) rfl gL_law_X5_setting rfl ⟨rfl, rfl⟩ ok_X5_setting ⟨Nat.le_of_ble_eq_true rfl, Nat.le_of_ble_eq_true rfl⟩ (Nat.le_of_ble_eq_true rfl) dL_law_1406 ⟨by omega, by omega⟩ (fun r2 u2 hpo => ?_)
  obtain ⟨σ2, hrl2, hR2⟩ := hpo
  obtain ⟨e1, e2, e3⟩ := det_setting hrl hrl2
  subst e2
  refine V_istore hc dL_law_1409 [(6, .int (iI r2)), (5, .int (iI r)), (0, .ref b), (1, .ref hB), (2, .ref hM), (3, .ref oA), (4, .int (iI i))] (Nat.le_of_ble_eq_true rfl) rfl ?_
  refine V_aload_n hc dL_law_1411 4 rfl ?_
  refine V_callVI (As := []) (wc := LM t hM a u2) (wr := C1 ++ [aJ t oA 1 f1]) hc (List.Perm.refl _) rfl rfl mdl_thrown rfl gL_law_X5_thrown rfl ⟨rfl, rfl⟩ ok_X5_thrown ⟨Nat.le_of_ble_eq_true rfl, Nat.le_of_ble_eq_true rfl⟩ (Nat.le_of_ble_eq_true rfl) dL_law_1412 ⟨by omega, by omega⟩ (fun r3 u3 hpo => ?_)
  refine V_pm (ws1 := [aJ t oA 1 f1] ++ (LM t hM a u2 ++ C1)) (pL2 _ _ _) ?_
  refine V_iload hc dL_law_1415 1 rfl ?_
  refine V_eqT (tgt := 1422) hc dL_law_1417 (by decide) (by rw [hpo, e1]) ?_
  refine V_iload hc dL_law_1422 1 rfl ?_
  refine V_if_ne (X := True) (Y := r = 0) (tgt := 1439) hc dL_law_1424 (by decide) ⟨by omega, fun _ => trivial, fun h => by omega⟩ (fun _ => ?_) (fun hr0 => ?_)
  · skip
    refine V_goto (tgt := 1651) hc dL_law_1439 (by decide) ?_
    refine V_lv [2, 3, 4, 5, 6] [(0, .ref b), (1, .ref hB), (2, .ref hM), (3, .ref oA), (4, .int (iI i))] rfl ?_
    exact V_widen (by omega) (by omega) (hK σ1 u2 C1 f1 hCW1 hR2 hI1)
  · skip
    refine V_aload_n hc dL_law_1427 5 rfl ?_
    refine V_iconst hc dL_law_1428 ?_
    refine V_lald hc 0 rfl dL_law_1429 ?_
    refine V_iload hc dL_law_1430 0 rfl ?_
    refine V_i2l hc dL_law_1432 ?_
    refine V_lcmpT hc dL_law_1433 ((hout hr0).trans (by rw [e3 hr0]; rfl)) ?_
    refine V_if_eq (X := True) (Y := False) (tgt := 1439) hc dL_law_1434 (by decide) ⟨by decide, fun _ => trivial, fun h => h rfl⟩ (fun _ => ?_) (fun h => h.elim)
    refine V_goto (tgt := 1651) hc dL_law_1439 (by decide) ?_
    refine V_lv [2, 3, 4, 5, 6] [(0, .ref b), (1, .ref hB), (2, .ref hM), (3, .ref oA), (4, .int (iI i))] rfl ?_
    exact V_widen (by omega) (by omega) (hK σ1 u2 C1 f1 hCW1 hR2 hI1)
set_option maxHeartbeats 4000000 in
set_option maxRecDepth 100000 in
theorem case_untilExchange (hc : Cx p room_1 s m args meth c D t A 9 cL_law wsL_law RL) (hG : Gx s) (hl0 : l.stackTraces = false) {L : Nat} {xs : Nat → Int32} {b : Nat} (hX : va_X b L xs s s.heap) (hbl : b < s.heap.size) (hbA : ¬ A b) (hL : L ≤ 2048) {hB hM oA : Nat} {a : Nat → Nat} {u : Nat → Nat → Int} {σ : aW} {B : Int} {f0 : Nat → Int64} {wC : va_W} (hCW : CW t hB wC σ) (hR : MREL u σ) (hI : iv B σ) (hb : B ≤ 1000000) {i : Int} (hi : 0 ≤ i ∧ i + 4 ≤ (L : Int)) (hfit : cells + 2 ≤ room_1.cells ∧ slots + 12 ≤ room_1.slots)
    (hK : ∀ (σ' : aW) (u' : Nat → Nat → Int) (wC' : va_W) (f' : Nat → Int64), CW t hB wC' σ' → MREL u' σ' → iv (B + 248) σ' → V p l e room_1 s m args below meth c D A 9 (cells + 2) (slots + 12) Q 1651 [(0, .ref b), (1, .ref hB), (2, .ref hM), (3, .ref oA), (4, .int (iI i))] [] ([aJ t oA 1 f'] ++ (LM t hM a u' ++ wC'))) : V p l e room_1 s m args below meth c D A 9 cells slots Q 1442 [(0, .ref b), (1, .ref hB), (2, .ref hM), (3, .ref oA), (4, .int (iI i))] [] ([aJ t oA 1 f0] ++ (LM t hM a u ++ wC)) := by
  refine V_aload_n hc dL_law_1442 1 rfl ?_
  refine V_aload_n hc dL_law_1443 0 rfl ?_
  refine V_iload hc dL_law_1444 4 rfl ?_
  refine V_iconst hc dL_law_1446 ?_
  refine V_iadd hc dL_law_1447 ?_
  refine V_sld hc hX hbl hbA (by omega) hL dL_law_1448 ?_
  refine V_aload_n hc dL_law_1449 3 rfl ?_
  refine V_callW (As := [.ref hB, .int (iI ((xs (i + 1).toNat).toInt)), .ref oA]) (hh := [(0, 9, 12, 13)]) hc hG (pL1 _ _ _) (cls_untilExchange hl0 f0 hCW hI (inR_x _)) rfl gL_law_L_untilExchange rfl ⟨rfl, rfl⟩ ok_L_untilExchange ⟨Nat.le_of_ble_eq_true rfl, Nat.le_of_ble_eq_true rfl⟩ (Nat.le_of_ble_eq_true rfl) dL_law_1450 ⟨by omega, by omega⟩ (fun r w hpo => ?_)
  obtain ⟨v, σ1, hrl, hCW1, hout⟩ := hpo
  obtain ⟨C1, f1⟩ := w
  have hrg := rl_rg hrl rg_untilExchange
  have hI1 : iv (B + 248) σ1 := iv_rl hI (fun v s h => by rw [h.2.2]; exact hI.mono (by omega)) hrl
  refine V_istore hc dL_law_1453 [(5, .int (iI r)), (0, .ref b), (1, .ref hB), (2, .ref hM), (3, .ref oA), (4, .int (iI i))] (Nat.le_of_ble_eq_true rfl) rfl ?_
  refine V_aload_n hc dL_law_1455 3 rfl ?_
  refine V_aload_n hc dL_law_1456 1 rfl ?_
  refine V_iload hc dL_law_1457 5 rfl ?_
  refine V_iconst hc dL_law_1459 ?_
  refine V_iadd hc dL_law_1460 ?_
  refine V_sld hc hX hbl hbA (by omega) hL dL_law_1461 ?_
  refine V_callVI (As := [.int (iI ((xs (i + 1).toNat).toInt))]) (wc := LM t hM a u) (wr := C1 ++ [aJ t oA 1 f1]) hc List.perm_append_comm rfl rfl (mdl_untilExchange hR hI hb (inR_x _)) rfl gL_law_X5_untilExchange rfl ⟨rfl, rfl⟩ ok_X5_untilExchange ⟨Nat.le_of_ble_eq_true rfl, Nat.le_of_ble_eq_true rfl⟩ (Nat.le_of_ble_eq_true rfl) dL_law_1462 ⟨by omega, by omega⟩ (fun r2 u2 hpo => ?_)
  obtain ⟨σ2, hrl2, hR2⟩ := hpo
  obtain ⟨e1, e2, e3⟩ := det_untilExchange hrl hrl2
  subst e2
  refine V_istore hc dL_law_1465 [(6, .int (iI r2)), (5, .int (iI r)), (0, .ref b), (1, .ref hB), (2, .ref hM), (3, .ref oA), (4, .int (iI i))] (Nat.le_of_ble_eq_true rfl) rfl ?_
  refine V_aload_n hc dL_law_1467 4 rfl ?_
  refine V_callVI (As := []) (wc := LM t hM a u2) (wr := C1 ++ [aJ t oA 1 f1]) hc (List.Perm.refl _) rfl rfl mdl_thrown rfl gL_law_X5_thrown rfl ⟨rfl, rfl⟩ ok_X5_thrown ⟨Nat.le_of_ble_eq_true rfl, Nat.le_of_ble_eq_true rfl⟩ (Nat.le_of_ble_eq_true rfl) dL_law_1468 ⟨by omega, by omega⟩ (fun r3 u3 hpo => ?_)
  refine V_pm (ws1 := [aJ t oA 1 f1] ++ (LM t hM a u2 ++ C1)) (pL2 _ _ _) ?_
  refine V_iload hc dL_law_1471 1 rfl ?_
  refine V_eqT (tgt := 1478) hc dL_law_1473 (by decide) (by rw [hpo, e1]) ?_
  refine V_iload hc dL_law_1478 1 rfl ?_
  refine V_if_ne (X := True) (Y := r = 0) (tgt := 1495) hc dL_law_1480 (by decide) ⟨by omega, fun _ => trivial, fun h => by omega⟩ (fun _ => ?_) (fun hr0 => ?_)
  · skip
    refine V_goto (tgt := 1651) hc dL_law_1495 (by decide) ?_
    refine V_lv [2, 3, 4, 5, 6] [(0, .ref b), (1, .ref hB), (2, .ref hM), (3, .ref oA), (4, .int (iI i))] rfl ?_
    exact V_widen (by omega) (by omega) (hK σ1 u2 C1 f1 hCW1 hR2 hI1)
  · skip
    refine V_aload_n hc dL_law_1483 5 rfl ?_
    refine V_iconst hc dL_law_1484 ?_
    refine V_lald hc 0 rfl dL_law_1485 ?_
    refine V_iload hc dL_law_1486 0 rfl ?_
    refine V_i2l hc dL_law_1488 ?_
    refine V_lcmpT hc dL_law_1489 ((hout hr0).trans (by rw [e3 hr0]; rfl)) ?_
    refine V_if_eq (X := True) (Y := False) (tgt := 1495) hc dL_law_1490 (by decide) ⟨by decide, fun _ => trivial, fun h => h rfl⟩ (fun _ => ?_) (fun h => h.elim)
    refine V_goto (tgt := 1651) hc dL_law_1495 (by decide) ?_
    refine V_lv [2, 3, 4, 5, 6] [(0, .ref b), (1, .ref hB), (2, .ref hM), (3, .ref oA), (4, .int (iI i))] rfl ?_
    exact V_widen (by omega) (by omega) (hK σ1 u2 C1 f1 hCW1 hR2 hI1)
set_option maxHeartbeats 4000000 in
set_option maxRecDepth 100000 in
theorem case_longest (hc : Cx p room_1 s m args meth c D t A 9 cL_law wsL_law RL) (hG : Gx s) (hl0 : l.stackTraces = false) {L : Nat} {xs : Nat → Int32} {b : Nat} (hX : va_X b L xs s s.heap) (hbl : b < s.heap.size) (hbA : ¬ A b) (hL : L ≤ 2048) {hB hM oA : Nat} {a : Nat → Nat} {u : Nat → Nat → Int} {σ : aW} {B : Int} {f0 : Nat → Int64} {wC : va_W} (hCW : CW t hB wC σ) (hR : MREL u σ) (hI : iv B σ) (hb : B ≤ 1000000) {i : Int} (hi : 0 ≤ i ∧ i + 4 ≤ (L : Int)) (hfit : cells + 2 ≤ room_1.cells ∧ slots + 12 ≤ room_1.slots)
    (hK : ∀ (σ' : aW) (u' : Nat → Nat → Int) (wC' : va_W) (f' : Nat → Int64), CW t hB wC' σ' → MREL u' σ' → iv (B + 248) σ' → V p l e room_1 s m args below meth c D A 9 (cells + 2) (slots + 12) Q 1651 [(0, .ref b), (1, .ref hB), (2, .ref hM), (3, .ref oA), (4, .int (iI i))] [] ([aJ t oA 1 f'] ++ (LM t hM a u' ++ wC'))) : V p l e room_1 s m args below meth c D A 9 cells slots Q 1498 [(0, .ref b), (1, .ref hB), (2, .ref hM), (3, .ref oA), (4, .int (iI i))] [] ([aJ t oA 1 f0] ++ (LM t hM a u ++ wC)) := by
  refine V_aload_n hc dL_law_1498 1 rfl ?_
  refine V_aload_n hc dL_law_1499 0 rfl ?_
  refine V_iload hc dL_law_1500 4 rfl ?_
  refine V_iconst hc dL_law_1502 ?_
  refine V_iadd hc dL_law_1503 ?_
  refine V_sld hc hX hbl hbA (by omega) hL dL_law_1504 ?_
  refine V_aload_n hc dL_law_1505 3 rfl ?_
  refine V_callW (As := [.ref hB, .int (iI ((xs (i + 1).toNat).toInt)), .ref oA]) (hh := [(0, 9, 12, 13)]) hc hG (pL1 _ _ _) (cls_longest hl0 f0 hCW hI (inR_x _)) rfl gL_law_L_longest rfl ⟨rfl, rfl⟩ ok_L_longest ⟨Nat.le_of_ble_eq_true rfl, Nat.le_of_ble_eq_true rfl⟩ (Nat.le_of_ble_eq_true rfl) dL_law_1506 ⟨by omega, by omega⟩ (fun r w hpo => ?_)
  obtain ⟨v, σ1, hrl, hCW1, hout⟩ := hpo
  obtain ⟨C1, f1⟩ := w
  have hrg := rl_rg hrl rg_longest
  have hI1 : iv (B + 248) σ1 := iv_rl hI (fun v s h => by rw [h.2.2]; exact hI.mono (by omega)) hrl
  refine V_istore hc dL_law_1509 [(5, .int (iI r)), (0, .ref b), (1, .ref hB), (2, .ref hM), (3, .ref oA), (4, .int (iI i))] (Nat.le_of_ble_eq_true rfl) rfl ?_
  refine V_aload_n hc dL_law_1511 3 rfl ?_
  refine V_aload_n hc dL_law_1512 1 rfl ?_
  refine V_iload hc dL_law_1513 5 rfl ?_
  refine V_iconst hc dL_law_1515 ?_
  refine V_iadd hc dL_law_1516 ?_
  refine V_sld hc hX hbl hbA (by omega) hL dL_law_1517 ?_
  refine V_callVI (As := [.int (iI ((xs (i + 1).toNat).toInt))]) (wc := LM t hM a u) (wr := C1 ++ [aJ t oA 1 f1]) hc List.perm_append_comm rfl rfl (mdl_longest hR hI hb (inR_x _)) rfl gL_law_X5_longest rfl ⟨rfl, rfl⟩ ok_X5_longest ⟨Nat.le_of_ble_eq_true rfl, Nat.le_of_ble_eq_true rfl⟩ (Nat.le_of_ble_eq_true rfl) dL_law_1518 ⟨by omega, by omega⟩ (fun r2 u2 hpo => ?_)
  obtain ⟨σ2, hrl2, hR2⟩ := hpo
  obtain ⟨e1, e2, e3⟩ := det_longest hrl hrl2
  subst e2
  refine V_istore hc dL_law_1521 [(6, .int (iI r2)), (5, .int (iI r)), (0, .ref b), (1, .ref hB), (2, .ref hM), (3, .ref oA), (4, .int (iI i))] (Nat.le_of_ble_eq_true rfl) rfl ?_
  refine V_aload_n hc dL_law_1523 4 rfl ?_
  refine V_callVI (As := []) (wc := LM t hM a u2) (wr := C1 ++ [aJ t oA 1 f1]) hc (List.Perm.refl _) rfl rfl mdl_thrown rfl gL_law_X5_thrown rfl ⟨rfl, rfl⟩ ok_X5_thrown ⟨Nat.le_of_ble_eq_true rfl, Nat.le_of_ble_eq_true rfl⟩ (Nat.le_of_ble_eq_true rfl) dL_law_1524 ⟨by omega, by omega⟩ (fun r3 u3 hpo => ?_)
  refine V_pm (ws1 := [aJ t oA 1 f1] ++ (LM t hM a u2 ++ C1)) (pL2 _ _ _) ?_
  refine V_iload hc dL_law_1527 1 rfl ?_
  refine V_eqT (tgt := 1534) hc dL_law_1529 (by decide) (by rw [hpo, e1]) ?_
  refine V_iload hc dL_law_1534 1 rfl ?_
  refine V_if_ne (X := True) (Y := r = 0) (tgt := 1551) hc dL_law_1536 (by decide) ⟨by omega, fun _ => trivial, fun h => by omega⟩ (fun _ => ?_) (fun hr0 => ?_)
  · skip
    refine V_goto (tgt := 1651) hc dL_law_1551 (by decide) ?_
    refine V_lv [2, 3, 4, 5, 6] [(0, .ref b), (1, .ref hB), (2, .ref hM), (3, .ref oA), (4, .int (iI i))] rfl ?_
    exact V_widen (by omega) (by omega) (hK σ1 u2 C1 f1 hCW1 hR2 hI1)
  · skip
    refine V_aload_n hc dL_law_1539 5 rfl ?_
    refine V_iconst hc dL_law_1540 ?_
    refine V_lald hc 0 rfl dL_law_1541 ?_
    refine V_iload hc dL_law_1542 0 rfl ?_
    refine V_i2l hc dL_law_1544 ?_
    refine V_lcmpT hc dL_law_1545 ((hout hr0).trans (by rw [e3 hr0]; rfl)) ?_
    refine V_if_eq (X := True) (Y := False) (tgt := 1551) hc dL_law_1546 (by decide) ⟨by decide, fun _ => trivial, fun h => h rfl⟩ (fun _ => ?_) (fun h => h.elim)
    refine V_goto (tgt := 1651) hc dL_law_1551 (by decide) ?_
    refine V_lv [2, 3, 4, 5, 6] [(0, .ref b), (1, .ref hB), (2, .ref hM), (3, .ref oA), (4, .int (iI i))] rfl ?_
    exact V_widen (by omega) (by omega) (hK σ1 u2 C1 f1 hCW1 hR2 hI1)
set_option maxHeartbeats 4000000 in
set_option maxRecDepth 100000 in
theorem case_leastSpeed (hc : Cx p room_1 s m args meth c D t A 9 cL_law wsL_law RL) (hG : Gx s) (hl0 : l.stackTraces = false) {L : Nat} {xs : Nat → Int32} {b : Nat} (hX : va_X b L xs s s.heap) (hbl : b < s.heap.size) (hbA : ¬ A b) (hL : L ≤ 2048) {hB hM oA : Nat} {a : Nat → Nat} {u : Nat → Nat → Int} {σ : aW} {B : Int} {f0 : Nat → Int64} {wC : va_W} (hCW : CW t hB wC σ) (hR : MREL u σ) (hI : iv B σ) (hb : B ≤ 1000000) {i : Int} (hi : 0 ≤ i ∧ i + 4 ≤ (L : Int)) (hfit : cells + 2 ≤ room_1.cells ∧ slots + 12 ≤ room_1.slots)
    (hK : ∀ (σ' : aW) (u' : Nat → Nat → Int) (wC' : va_W) (f' : Nat → Int64), CW t hB wC' σ' → MREL u' σ' → iv (B + 248) σ' → V p l e room_1 s m args below meth c D A 9 (cells + 2) (slots + 12) Q 1651 [(0, .ref b), (1, .ref hB), (2, .ref hM), (3, .ref oA), (4, .int (iI i))] [] ([aJ t oA 1 f'] ++ (LM t hM a u' ++ wC'))) : V p l e room_1 s m args below meth c D A 9 cells slots Q 1554 [(0, .ref b), (1, .ref hB), (2, .ref hM), (3, .ref oA), (4, .int (iI i))] [] ([aJ t oA 1 f0] ++ (LM t hM a u ++ wC)) := by
  refine V_aload_n hc dL_law_1554 1 rfl ?_
  refine V_aload_n hc dL_law_1555 0 rfl ?_
  refine V_iload hc dL_law_1556 4 rfl ?_
  refine V_iconst hc dL_law_1558 ?_
  refine V_iadd hc dL_law_1559 ?_
  refine V_sld hc hX hbl hbA (by omega) hL dL_law_1560 ?_
  refine V_aload_n hc dL_law_1561 3 rfl ?_
  refine V_callW (As := [.ref hB, .int (iI ((xs (i + 1).toNat).toInt)), .ref oA]) (hh := [(0, 9, 12, 13)]) hc hG (pL1 _ _ _) (cls_leastSpeed hl0 f0 hCW hI (inR_x _)) rfl gL_law_L_leastSpeed rfl ⟨rfl, rfl⟩ ok_L_leastSpeed ⟨Nat.le_of_ble_eq_true rfl, Nat.le_of_ble_eq_true rfl⟩ (Nat.le_of_ble_eq_true rfl) dL_law_1562 ⟨by omega, by omega⟩ (fun r w hpo => ?_)
  obtain ⟨v, σ1, hrl, hCW1, hout⟩ := hpo
  obtain ⟨C1, f1⟩ := w
  have hrg := rl_rg hrl rg_leastSpeed
  have hI1 : iv (B + 248) σ1 := iv_rl hI (fun v s h => by rw [h.2.2]; exact hI.mono (by omega)) hrl
  refine V_istore hc dL_law_1565 [(5, .int (iI r)), (0, .ref b), (1, .ref hB), (2, .ref hM), (3, .ref oA), (4, .int (iI i))] (Nat.le_of_ble_eq_true rfl) rfl ?_
  refine V_aload_n hc dL_law_1567 3 rfl ?_
  refine V_aload_n hc dL_law_1568 1 rfl ?_
  refine V_iload hc dL_law_1569 5 rfl ?_
  refine V_iconst hc dL_law_1571 ?_
  refine V_iadd hc dL_law_1572 ?_
  refine V_sld hc hX hbl hbA (by omega) hL dL_law_1573 ?_
  refine V_callVI (As := [.int (iI ((xs (i + 1).toNat).toInt))]) (wc := LM t hM a u) (wr := C1 ++ [aJ t oA 1 f1]) hc List.perm_append_comm rfl rfl (mdl_leastSpeed hR hI hb (inR_x _)) rfl gL_law_X5_leastSpeed rfl ⟨rfl, rfl⟩ ok_X5_leastSpeed ⟨Nat.le_of_ble_eq_true rfl, Nat.le_of_ble_eq_true rfl⟩ (Nat.le_of_ble_eq_true rfl) dL_law_1574 ⟨by omega, by omega⟩ (fun r2 u2 hpo => ?_)
  obtain ⟨σ2, hrl2, hR2⟩ := hpo
  obtain ⟨e1, e2, e3⟩ := det_leastSpeed hrl hrl2
  subst e2
  refine V_istore hc dL_law_1577 [(6, .int (iI r2)), (5, .int (iI r)), (0, .ref b), (1, .ref hB), (2, .ref hM), (3, .ref oA), (4, .int (iI i))] (Nat.le_of_ble_eq_true rfl) rfl ?_
  refine V_aload_n hc dL_law_1579 4 rfl ?_
  refine V_callVI (As := []) (wc := LM t hM a u2) (wr := C1 ++ [aJ t oA 1 f1]) hc (List.Perm.refl _) rfl rfl mdl_thrown rfl gL_law_X5_thrown rfl ⟨rfl, rfl⟩ ok_X5_thrown ⟨Nat.le_of_ble_eq_true rfl, Nat.le_of_ble_eq_true rfl⟩ (Nat.le_of_ble_eq_true rfl) dL_law_1580 ⟨by omega, by omega⟩ (fun r3 u3 hpo => ?_)
  refine V_pm (ws1 := [aJ t oA 1 f1] ++ (LM t hM a u2 ++ C1)) (pL2 _ _ _) ?_
  refine V_iload hc dL_law_1583 1 rfl ?_
  refine V_eqT (tgt := 1590) hc dL_law_1585 (by decide) (by rw [hpo, e1]) ?_
  refine V_iload hc dL_law_1590 1 rfl ?_
  refine V_if_ne (X := True) (Y := r = 0) (tgt := 1607) hc dL_law_1592 (by decide) ⟨by omega, fun _ => trivial, fun h => by omega⟩ (fun _ => ?_) (fun hr0 => ?_)
  · skip
    refine V_goto (tgt := 1651) hc dL_law_1607 (by decide) ?_
    refine V_lv [2, 3, 4, 5, 6] [(0, .ref b), (1, .ref hB), (2, .ref hM), (3, .ref oA), (4, .int (iI i))] rfl ?_
    exact V_widen (by omega) (by omega) (hK σ1 u2 C1 f1 hCW1 hR2 hI1)
  · skip
    refine V_aload_n hc dL_law_1595 5 rfl ?_
    refine V_iconst hc dL_law_1596 ?_
    refine V_lald hc 0 rfl dL_law_1597 ?_
    refine V_iload hc dL_law_1598 0 rfl ?_
    refine V_i2l hc dL_law_1600 ?_
    refine V_lcmpT hc dL_law_1601 ((hout hr0).trans (by rw [e3 hr0]; rfl)) ?_
    refine V_if_eq (X := True) (Y := False) (tgt := 1607) hc dL_law_1602 (by decide) ⟨by decide, fun _ => trivial, fun h => h rfl⟩ (fun _ => ?_) (fun h => h.elim)
    refine V_goto (tgt := 1651) hc dL_law_1607 (by decide) ?_
    refine V_lv [2, 3, 4, 5, 6] [(0, .ref b), (1, .ref hB), (2, .ref hM), (3, .ref oA), (4, .int (iI i))] rfl ?_
    exact V_widen (by omega) (by omega) (hK σ1 u2 C1 f1 hCW1 hR2 hI1)
set_option maxHeartbeats 4000000 in
set_option maxRecDepth 100000 in
theorem case_meanDepth (hc : Cx p room_1 s m args meth c D t A 9 cL_law wsL_law RL) (hG : Gx s) (hl0 : l.stackTraces = false) {L : Nat} {xs : Nat → Int32} {b : Nat} (hX : va_X b L xs s s.heap) (hbl : b < s.heap.size) (hbA : ¬ A b) (hL : L ≤ 2048) {hB hM oA : Nat} {a : Nat → Nat} {u : Nat → Nat → Int} {σ : aW} {B : Int} {f0 : Nat → Int64} {wC : va_W} (hCW : CW t hB wC σ) (hR : MREL u σ) (hI : iv B σ) (hb : B ≤ 1000000) {i : Int} (hi : 0 ≤ i ∧ i + 4 ≤ (L : Int)) (hfit : cells + 2 ≤ room_1.cells ∧ slots + 12 ≤ room_1.slots)
    (hK : ∀ (σ' : aW) (u' : Nat → Nat → Int) (wC' : va_W) (f' : Nat → Int64), CW t hB wC' σ' → MREL u' σ' → iv (B + 248) σ' → V p l e room_1 s m args below meth c D A 9 (cells + 2) (slots + 12) Q 1651 [(0, .ref b), (1, .ref hB), (2, .ref hM), (3, .ref oA), (4, .int (iI i))] [] ([aJ t oA 1 f'] ++ (LM t hM a u' ++ wC'))) : V p l e room_1 s m args below meth c D A 9 cells slots Q 1610 [(0, .ref b), (1, .ref hB), (2, .ref hM), (3, .ref oA), (4, .int (iI i))] [] ([aJ t oA 1 f0] ++ (LM t hM a u ++ wC)) := by
  obtain ⟨wc, wr, fs, T, W1, post, hp, hrc, hM1, hpost⟩ := cls_meanDepth (l := l) (D := D) hCW hI
  refine V_aload_n hc dL_law_1610 1 rfl ?_
  refine V_callVD (As := []) (wc := wc) (wr := wr ++ ([aJ t oA 1 f0] ++ LM t hM a u)) hc (pL3 hp) hrc rfl hM1 rfl gL_law_X4_meanDepth rfl ⟨rfl, rfl⟩ ok_X4_meanDepth ⟨Nat.le_of_ble_eq_true rfl, Nat.le_of_ble_eq_true rfl⟩ (Nat.le_of_ble_eq_true rfl) dL_law_1611 ⟨by omega, by omega⟩ (fun r w hpo => ?_)
  obtain ⟨e1, hCW1⟩ := hpost r w hpo
  subst e1
  refine V_dstore hc dL_law_1614 [(5, .double (ab_md σ.1)), (0, .ref b), (1, .ref hB), (2, .ref hM), (3, .ref oA), (4, .int (iI i))] (Nat.le_of_ble_eq_true rfl) rfl ?_
  refine V_aload_n hc dL_law_1616 3 rfl ?_
  refine V_callVD (As := []) (wc := LM t hM a u) (wr := [aJ t oA 1 f0] ++ (W1 w ++ wr)) hc (pL4 _ _ _ _) rfl rfl (mdl_meanDepth hR hI hb) rfl gL_law_X5_meanDepth rfl ⟨rfl, rfl⟩ ok_X5_meanDepth ⟨Nat.le_of_ble_eq_true rfl, Nat.le_of_ble_eq_true rfl⟩ (Nat.le_of_ble_eq_true rfl) dL_law_1617 ⟨by omega, by omega⟩ (fun r2 u2 hpo2 => ?_)
  obtain ⟨e1, hR2⟩ := hpo2
  subst e1
  refine V_dstore hc dL_law_1620 [(7, .double (ab_md σ.1)), (5, .double (ab_md σ.1)), (0, .ref b), (1, .ref hB), (2, .ref hM), (3, .ref oA), (4, .int (iI i))] (Nat.le_of_ble_eq_true rfl) rfl ?_
  refine V_dload hc dL_law_1622 1 rfl ?_
  refine V_dload hc dL_law_1624 0 rfl ?_
  refine V_dcmpT hc dL_law_1626 (fq_cmp (ab_md_ok hI.1)) ?_
  refine V_if_eq (X := True) (Y := False) (tgt := 1648) hc dL_law_1627 (by decide) ⟨by decide, fun _ => trivial, fun h => h rfl⟩ (fun _ => ?_) (fun h => h.elim)
  refine V_goto (tgt := 1651) hc dL_law_1648 (by decide) ?_
  refine V_lv [2, 3, 4, 5, 6] [(0, .ref b), (1, .ref hB), (2, .ref hM), (3, .ref oA), (4, .int (iI i))] rfl ?_
  refine V_pm (ws1 := [aJ t oA 1 f0] ++ (LM t hM a u2 ++ (W1 w ++ wr))) (pL5 _ _ _) ?_
  exact V_widen (by omega) (by omega) (hK σ u2 (W1 w ++ wr) f0 hCW1 hR2 (hI.mono (by omega)))
end LAWC
