theorem m_L_add_c13 : Cond.classLink RL 13 "java/lang/IllegalArgumentException" ∈ wsL_add := by decide +kernel
theorem m_L_add_c15 : Cond.classLink RL 15 "java/lang/IllegalStateException" ∈ wsL_add := by decide +kernel
abbrev rm_L_add : Room := { frames := 8, cells := 2, slots := 12, locals := 199 }
theorem ok_L_add : yL_add.cls ≠ "java/lang/invoke/MethodHandle" ∧ yL_add.cls ≠ "java/lang/invoke/VarHandle" ∧ (parseMethodDescriptor yL_add.desc).map (fun d => d.parameters.length) = some 3 := by decide +kernel
set_option maxHeartbeats 2000000 in
theorem met_L_add {l : Launch} {D : va_G} {t : Nat → ClassId} {hB oA : Nat} {fs : List Value} {wc ws0 wr : va_W} (hp : ws0.Perm (wc ++ wr)) {x1 : Int} {S : Type} {W1 : S → va_W} {post : Int → S → Prop} {PX : va_W → Prop} {px : Nat → Prop} (f0 : Nat → Int64) (hM : XI l D t yX4_add wsX4_add rm_X4_add (.ref hB :: [.int (iI x1)]) wc W1 post PX px 2 12) (hrc : wc[0]? = some (hB, .inr (4, fs))) (hpx : ∀ j, px j → j = 0 ∨ j = 1) : MWi l D t yL_add wsL_add rm_L_add [.ref hB, .int (iI x1), .ref oA] (ws0 ++ [aJ t oA 1 f0]) (W1_wr t oA) (po_wr W1 post PX px wr cd10 vl) 2 12 := by
  refine M_ofw (cc := cL_add) (nL := 4) (hh := [(0, 9, 12, 13), (0, 9, 15, 15)]) (by decide) rfl (Nat.le_of_ble_eq_true rfl) ?_
  intro p e s m args below meth c A hc hG hT hr
  refine V_lv [0, 1, 2] [(0, .ref hB), (1, .int (iI x1)), (2, .ref oA)] rfl ?_
  refine V_aload_n hc dL_add_0 2 rfl ?_
  refine V_iconst hc dL_add_1 ?_
  refine V_aload_n hc dL_add_2 0 rfl ?_
  refine V_iload_n hc dL_add_3 1 rfl ?_
  refine V_tryVI (As := [.int (iI x1)]) (wc := wc) (wr := wr ++ [aJ t oA 1 f0]) hc (wpA _ hp) hrc rfl hM rfl gL_add_X4_add rfl ⟨rfl, rfl⟩ ok_X4_add (by decide) (Nat.le_of_ble_eq_true rfl) dL_add_4 ⟨Nat.le_of_ble_eq_true rfl, Nat.le_of_ble_eq_true rfl⟩ (fun j q9 W9 hj hW9 => ?_) (fun r u hpo => ?_)
  · rcases hpx j hj with rfl | rfl
    · refine ⟨[], (⟨0, 9, 12, 13⟩ : ExceptionTableEntry), [(⟨0, 9, 15, 15⟩ : ExceptionTableEntry)], "java/lang/IllegalArgumentException", hT, fun z hz => absurd hz List.not_mem_nil, by decide, by decide, m_L_add_c13, by decide, ?_⟩
      refine V_astore_n hc dL_add_12 [(3, .ref q9), (0, .ref hB), (1, .int (iI x1)), (2, .ref oA)] (by decide) rfl ?_
      refine V_iconst hc dL_add_13 ?_
      exact V_iret hc hr (W9 ++ wr, f0) (Or.inr ⟨0, W9, hj, rfl, hW9, rfl⟩) (List.append_assoc _ _ _).symm dL_add_14
    · refine ⟨[(⟨0, 9, 12, 13⟩ : ExceptionTableEntry)], (⟨0, 9, 15, 15⟩ : ExceptionTableEntry), [], "java/lang/IllegalStateException", hT, fun z hz => by rw [List.mem_singleton.mp hz]; exact ⟨by decide, "java/lang/IllegalArgumentException", m_L_add_c13, hG.1⟩, by decide, by decide, m_L_add_c15, by decide, ?_⟩
      refine V_astore_n hc dL_add_15 [(3, .ref q9), (0, .ref hB), (1, .int (iI x1)), (2, .ref oA)] (by decide) rfl ?_
      refine V_iconst hc dL_add_16 ?_
      exact V_iret hc hr (W9 ++ wr, f0) (Or.inr ⟨1, W9, hj, rfl, hW9, rfl⟩) (List.append_assoc _ _ _).symm dL_add_17
  · refine V_pm (ws1 := [aJ t oA 1 f0] ++ (W1 u ++ wr)) (wpB _ _ _) ?_
    refine V_i2l hc dL_add_7 ?_
    refine V_last hc 0 rfl dL_add_8 ([aJ t oA 1 (fun _ => vl r)] ++ (W1 u ++ wr)) rfl ?_
    refine V_goto (tgt := 18) hc dL_add_9 (by decide) ?_
    refine V_iconst hc dL_add_18 ?_
    refine V_pm (ws1 := (W1 u ++ wr) ++ [aJ t oA 1 (fun _ => vl r)]) List.perm_append_comm ?_
    exact V_iret hc hr (W1 u ++ wr, fun _ => vl r) (Or.inl ⟨rfl, r, u, hpo, rfl, rfl⟩) rfl dL_add_19
theorem m_L_remove_c13 : Cond.classLink RL 13 "java/lang/IllegalArgumentException" ∈ wsL_remove := by decide +kernel
abbrev rm_L_remove : Room := { frames := 8, cells := 1, slots := 6, locals := 199 }
theorem ok_L_remove : yL_remove.cls ≠ "java/lang/invoke/MethodHandle" ∧ yL_remove.cls ≠ "java/lang/invoke/VarHandle" ∧ (parseMethodDescriptor yL_remove.desc).map (fun d => d.parameters.length) = some 3 := by decide +kernel
set_option maxHeartbeats 2000000 in
theorem met_L_remove {l : Launch} {D : va_G} {t : Nat → ClassId} {hB oA : Nat} {fs : List Value} {wc ws0 wr : va_W} (hp : ws0.Perm (wc ++ wr)) {x1 : Int} {S : Type} {W1 : S → va_W} {post : Int → S → Prop} {PX : va_W → Prop} {px : Nat → Prop} (f0 : Nat → Int64) (hM : XI l D t yX4_remove wsX4_remove rm_X4_remove (.ref hB :: [.int (iI x1)]) wc W1 post PX px 1 6) (hrc : wc[0]? = some (hB, .inr (4, fs))) (hpx : ∀ j, px j → j = 0) : MWi l D t yL_remove wsL_remove rm_L_remove [.ref hB, .int (iI x1), .ref oA] (ws0 ++ [aJ t oA 1 f0]) (W1_wr t oA) (po_wr W1 post PX px wr cd1 vl) 1 6 := by
  refine M_ofw (cc := cL_remove) (nL := 4) (hh := [(0, 9, 12, 13)]) (by decide) rfl (Nat.le_of_ble_eq_true rfl) ?_
  intro p e s m args below meth c A hc hG hT hr
  refine V_lv [0, 1, 2] [(0, .ref hB), (1, .int (iI x1)), (2, .ref oA)] rfl ?_
  refine V_aload_n hc dL_remove_0 2 rfl ?_
  refine V_iconst hc dL_remove_1 ?_
  refine V_aload_n hc dL_remove_2 0 rfl ?_
  refine V_iload_n hc dL_remove_3 1 rfl ?_
  refine V_tryVI (As := [.int (iI x1)]) (wc := wc) (wr := wr ++ [aJ t oA 1 f0]) hc (wpA _ hp) hrc rfl hM rfl gL_remove_X4_remove rfl ⟨rfl, rfl⟩ ok_X4_remove (by decide) (Nat.le_of_ble_eq_true rfl) dL_remove_4 ⟨Nat.le_of_ble_eq_true rfl, Nat.le_of_ble_eq_true rfl⟩ (fun j q9 W9 hj hW9 => ?_) (fun r u hpo => ?_)
  · obtain rfl := hpx j hj
    refine ⟨[], (⟨0, 9, 12, 13⟩ : ExceptionTableEntry), [], "java/lang/IllegalArgumentException", hT, fun z hz => absurd hz List.not_mem_nil, by decide, by decide, m_L_remove_c13, by decide, ?_⟩
    refine V_astore_n hc dL_remove_12 [(3, .ref q9), (0, .ref hB), (1, .int (iI x1)), (2, .ref oA)] (by decide) rfl ?_
    refine V_iconst hc dL_remove_13 ?_
    exact V_iret hc hr (W9 ++ wr, f0) (Or.inr ⟨0, W9, hj, rfl, hW9, rfl⟩) (List.append_assoc _ _ _).symm dL_remove_14
  · refine V_pm (ws1 := [aJ t oA 1 f0] ++ (W1 u ++ wr)) (wpB _ _ _) ?_
    refine V_i2l hc dL_remove_7 ?_
    refine V_last hc 0 rfl dL_remove_8 ([aJ t oA 1 (fun _ => vl r)] ++ (W1 u ++ wr)) rfl ?_
    refine V_goto (tgt := 15) hc dL_remove_9 (by decide) ?_
    refine V_iconst hc dL_remove_15 ?_
    refine V_pm (ws1 := (W1 u ++ wr) ++ [aJ t oA 1 (fun _ => vl r)]) List.perm_append_comm ?_
    exact V_iret hc hr (W1 u ++ wr, fun _ => vl r) (Or.inl ⟨rfl, r, u, hpo, rfl, rfl⟩) rfl dL_remove_16
theorem m_L_begin_c15 : Cond.classLink RL 15 "java/lang/IllegalStateException" ∈ wsL_begin := by decide +kernel
abbrev rm_L_begin : Room := { frames := 7, cells := 1, slots := 6, locals := 163 }
theorem ok_L_begin : yL_begin.cls ≠ "java/lang/invoke/MethodHandle" ∧ yL_begin.cls ≠ "java/lang/invoke/VarHandle" ∧ (parseMethodDescriptor yL_begin.desc).map (fun d => d.parameters.length) = some 2 := by decide +kernel
set_option maxHeartbeats 2000000 in
theorem met_L_begin {l : Launch} {D : va_G} {t : Nat → ClassId} {hB oA : Nat} {fs : List Value} {wc ws0 wr : va_W} (hp : ws0.Perm (wc ++ wr)) {S : Type} {W1 : S → va_W} {post : Int → S → Prop} {PX : va_W → Prop} {px : Nat → Prop} (f0 : Nat → Int64) (hM : XI l D t yX4_begin wsX4_begin rm_X4_begin (.ref hB :: []) wc W1 post PX px 1 6) (hrc : wc[0]? = some (hB, .inr (4, fs))) (hpx : ∀ j, px j → j = 1) : MWi l D t yL_begin wsL_begin rm_L_begin [.ref hB, .ref oA] (ws0 ++ [aJ t oA 1 f0]) (W1_wr t oA) (po_wr W1 post PX px wr cd1 vl) 1 6 := by
  refine M_ofw (cc := cL_begin) (nL := 3) (hh := [(0, 8, 11, 15)]) (by decide) rfl (Nat.le_of_ble_eq_true rfl) ?_
  intro p e s m args below meth c A hc hG hT hr
  refine V_lv [0, 1] [(0, .ref hB), (1, .ref oA)] rfl ?_
  refine V_aload_n hc dL_begin_0 1 rfl ?_
  refine V_iconst hc dL_begin_1 ?_
  refine V_aload_n hc dL_begin_2 0 rfl ?_
  refine V_tryVI (As := []) (wc := wc) (wr := wr ++ [aJ t oA 1 f0]) hc (wpA _ hp) hrc rfl hM rfl gL_begin_X4_begin rfl ⟨rfl, rfl⟩ ok_X4_begin (by decide) (Nat.le_of_ble_eq_true rfl) dL_begin_3 ⟨Nat.le_of_ble_eq_true rfl, Nat.le_of_ble_eq_true rfl⟩ (fun j q9 W9 hj hW9 => ?_) (fun r u hpo => ?_)
  · obtain rfl := hpx j hj
    refine ⟨[], (⟨0, 8, 11, 15⟩ : ExceptionTableEntry), [], "java/lang/IllegalStateException", hT, fun z hz => absurd hz List.not_mem_nil, by decide, by decide, m_L_begin_c15, by decide, ?_⟩
    refine V_astore_n hc dL_begin_11 [(2, .ref q9), (0, .ref hB), (1, .ref oA)] (by decide) rfl ?_
    refine V_iconst hc dL_begin_12 ?_
    exact V_iret hc hr (W9 ++ wr, f0) (Or.inr ⟨1, W9, hj, rfl, hW9, rfl⟩) (List.append_assoc _ _ _).symm dL_begin_13
  · refine V_pm (ws1 := [aJ t oA 1 f0] ++ (W1 u ++ wr)) (wpB _ _ _) ?_
    refine V_i2l hc dL_begin_6 ?_
    refine V_last hc 0 rfl dL_begin_7 ([aJ t oA 1 (fun _ => vl r)] ++ (W1 u ++ wr)) rfl ?_
    refine V_goto (tgt := 14) hc dL_begin_8 (by decide) ?_
    refine V_iconst hc dL_begin_14 ?_
    refine V_pm (ws1 := (W1 u ++ wr) ++ [aJ t oA 1 (fun _ => vl r)]) List.perm_append_comm ?_
    exact V_iret hc hr (W1 u ++ wr, fun _ => vl r) (Or.inl ⟨rfl, r, u, hpo, rfl, rfl⟩) rfl dL_begin_15
theorem m_L_abandon_c15 : Cond.classLink RL 15 "java/lang/IllegalStateException" ∈ wsL_abandon := by decide +kernel
abbrev rm_L_abandon : Room := { frames := 7, cells := 1, slots := 6, locals := 164 }
theorem ok_L_abandon : yL_abandon.cls ≠ "java/lang/invoke/MethodHandle" ∧ yL_abandon.cls ≠ "java/lang/invoke/VarHandle" ∧ (parseMethodDescriptor yL_abandon.desc).map (fun d => d.parameters.length) = some 2 := by decide +kernel
set_option maxHeartbeats 2000000 in
theorem met_L_abandon {l : Launch} {D : va_G} {t : Nat → ClassId} {hB oA : Nat} {fs : List Value} {wc ws0 wr : va_W} (hp : ws0.Perm (wc ++ wr)) {S : Type} {W1 : S → va_W} {post : Int → S → Prop} {PX : va_W → Prop} {px : Nat → Prop} (f0 : Nat → Int64) (hM : XI l D t yX4_abandon wsX4_abandon rm_X4_abandon (.ref hB :: []) wc W1 post PX px 1 6) (hrc : wc[0]? = some (hB, .inr (4, fs))) (hpx : ∀ j, px j → j = 1) : MWi l D t yL_abandon wsL_abandon rm_L_abandon [.ref hB, .ref oA] (ws0 ++ [aJ t oA 1 f0]) (W1_wr t oA) (po_wr W1 post PX px wr cd1 vl) 1 6 := by
  refine M_ofw (cc := cL_abandon) (nL := 3) (hh := [(0, 8, 11, 15)]) (by decide) rfl (Nat.le_of_ble_eq_true rfl) ?_
  intro p e s m args below meth c A hc hG hT hr
  refine V_lv [0, 1] [(0, .ref hB), (1, .ref oA)] rfl ?_
  refine V_aload_n hc dL_abandon_0 1 rfl ?_
  refine V_iconst hc dL_abandon_1 ?_
  refine V_aload_n hc dL_abandon_2 0 rfl ?_
  refine V_tryVI (As := []) (wc := wc) (wr := wr ++ [aJ t oA 1 f0]) hc (wpA _ hp) hrc rfl hM rfl gL_abandon_X4_abandon rfl ⟨rfl, rfl⟩ ok_X4_abandon (by decide) (Nat.le_of_ble_eq_true rfl) dL_abandon_3 ⟨Nat.le_of_ble_eq_true rfl, Nat.le_of_ble_eq_true rfl⟩ (fun j q9 W9 hj hW9 => ?_) (fun r u hpo => ?_)
  · obtain rfl := hpx j hj
    refine ⟨[], (⟨0, 8, 11, 15⟩ : ExceptionTableEntry), [], "java/lang/IllegalStateException", hT, fun z hz => absurd hz List.not_mem_nil, by decide, by decide, m_L_abandon_c15, by decide, ?_⟩
    refine V_astore_n hc dL_abandon_11 [(2, .ref q9), (0, .ref hB), (1, .ref oA)] (by decide) rfl ?_
    refine V_iconst hc dL_abandon_12 ?_
    exact V_iret hc hr (W9 ++ wr, f0) (Or.inr ⟨1, W9, hj, rfl, hW9, rfl⟩) (List.append_assoc _ _ _).symm dL_abandon_13
  · refine V_pm (ws1 := [aJ t oA 1 f0] ++ (W1 u ++ wr)) (wpB _ _ _) ?_
    refine V_i2l hc dL_abandon_6 ?_
    refine V_last hc 0 rfl dL_abandon_7 ([aJ t oA 1 (fun _ => vl r)] ++ (W1 u ++ wr)) rfl ?_
    refine V_goto (tgt := 14) hc dL_abandon_8 (by decide) ?_
    refine V_iconst hc dL_abandon_14 ?_
    refine V_pm (ws1 := (W1 u ++ wr) ++ [aJ t oA 1 (fun _ => vl r)]) List.perm_append_comm ?_
    exact V_iret hc hr (W1 u ++ wr, fun _ => vl r) (Or.inl ⟨rfl, r, u, hpo, rfl, rfl⟩) rfl dL_abandon_15
theorem m_L_set_c31 : Cond.classLink RL 31 "java/lang/IndexOutOfBoundsException" ∈ wsL_set := by decide +kernel
theorem m_L_set_c13 : Cond.classLink RL 13 "java/lang/IllegalArgumentException" ∈ wsL_set := by decide +kernel
abbrev rm_L_set : Room := { frames := 8, cells := 2, slots := 12, locals := 166 }
theorem ok_L_set : yL_set.cls ≠ "java/lang/invoke/MethodHandle" ∧ yL_set.cls ≠ "java/lang/invoke/VarHandle" ∧ (parseMethodDescriptor yL_set.desc).map (fun d => d.parameters.length) = some 4 := by decide +kernel
set_option maxHeartbeats 2000000 in
theorem met_L_set {l : Launch} {D : va_G} {t : Nat → ClassId} {hB oA : Nat} {fs : List Value} {wc ws0 wr : va_W} (hp : ws0.Perm (wc ++ wr)) {x1 x2 : Int} {S : Type} {W1 : S → va_W} {post : Int → S → Prop} {PX : va_W → Prop} {px : Nat → Prop} (f0 : Nat → Int64) (hM : XI l D t yX4_set wsX4_set rm_X4_set (.ref hB :: [.int (iI x1), .int (iI x2)]) wc W1 post PX px 2 12) (hrc : wc[0]? = some (hB, .inr (4, fs))) (hpx : ∀ j, px j → j = 2 ∨ j = 0) : MWi l D t yL_set wsL_set rm_L_set [.ref hB, .int (iI x1), .int (iI x2), .ref oA] (ws0 ++ [aJ t oA 1 f0]) (W1_wr t oA) (po_wr W1 post PX px wr cd20 vl) 2 12 := by
  refine M_ofw (cc := cL_set) (nL := 5) (hh := [(0, 10, 13, 31), (0, 10, 17, 13)]) (by decide) rfl (Nat.le_of_ble_eq_true rfl) ?_
  intro p e s m args below meth c A hc hG hT hr
  refine V_lv [0, 1, 2, 3] [(0, .ref hB), (1, .int (iI x1)), (2, .int (iI x2)), (3, .ref oA)] rfl ?_
  refine V_aload_n hc dL_set_0 3 rfl ?_
  refine V_iconst hc dL_set_1 ?_
  refine V_aload_n hc dL_set_2 0 rfl ?_
  refine V_iload_n hc dL_set_3 1 rfl ?_
  refine V_iload_n hc dL_set_4 2 rfl ?_
  refine V_tryVI (As := [.int (iI x1), .int (iI x2)]) (wc := wc) (wr := wr ++ [aJ t oA 1 f0]) hc (wpA _ hp) hrc rfl hM rfl gL_set_X4_set rfl ⟨rfl, rfl⟩ ok_X4_set (by decide) (Nat.le_of_ble_eq_true rfl) dL_set_5 ⟨Nat.le_of_ble_eq_true rfl, Nat.le_of_ble_eq_true rfl⟩ (fun j q9 W9 hj hW9 => ?_) (fun r u hpo => ?_)
  · rcases hpx j hj with rfl | rfl
    · refine ⟨[], (⟨0, 10, 13, 31⟩ : ExceptionTableEntry), [(⟨0, 10, 17, 13⟩ : ExceptionTableEntry)], "java/lang/IndexOutOfBoundsException", hT, fun z hz => absurd hz List.not_mem_nil, by decide, by decide, m_L_set_c31, by decide, ?_⟩
      refine V_astore hc dL_set_13 [(4, .ref q9), (0, .ref hB), (1, .int (iI x1)), (2, .int (iI x2)), (3, .ref oA)] (by decide) rfl ?_
      refine V_iconst hc dL_set_15 ?_
      exact V_iret hc hr (W9 ++ wr, f0) (Or.inr ⟨2, W9, hj, rfl, hW9, rfl⟩) (List.append_assoc _ _ _).symm dL_set_16
    · refine ⟨[(⟨0, 10, 13, 31⟩ : ExceptionTableEntry)], (⟨0, 10, 17, 13⟩ : ExceptionTableEntry), [], "java/lang/IllegalArgumentException", hT, fun z hz => by rw [List.mem_singleton.mp hz]; exact ⟨by decide, "java/lang/IndexOutOfBoundsException", m_L_set_c31, hG.2⟩, by decide, by decide, m_L_set_c13, by decide, ?_⟩
      refine V_astore hc dL_set_17 [(4, .ref q9), (0, .ref hB), (1, .int (iI x1)), (2, .int (iI x2)), (3, .ref oA)] (by decide) rfl ?_
      refine V_iconst hc dL_set_19 ?_
      exact V_iret hc hr (W9 ++ wr, f0) (Or.inr ⟨0, W9, hj, rfl, hW9, rfl⟩) (List.append_assoc _ _ _).symm dL_set_20
  · refine V_pm (ws1 := [aJ t oA 1 f0] ++ (W1 u ++ wr)) (wpB _ _ _) ?_
    refine V_i2l hc dL_set_8 ?_
    refine V_last hc 0 rfl dL_set_9 ([aJ t oA 1 (fun _ => vl r)] ++ (W1 u ++ wr)) rfl ?_
    refine V_goto (tgt := 21) hc dL_set_10 (by decide) ?_
    refine V_iconst hc dL_set_21 ?_
    refine V_pm (ws1 := (W1 u ++ wr) ++ [aJ t oA 1 (fun _ => vl r)]) List.perm_append_comm ?_
    exact V_iret hc hr (W1 u ++ wr, fun _ => vl r) (Or.inl ⟨rfl, r, u, hpo, rfl, rfl⟩) rfl dL_set_22
theorem m_L_append_c13 : Cond.classLink RL 13 "java/lang/IllegalArgumentException" ∈ wsL_append := by decide +kernel
theorem m_L_append_c15 : Cond.classLink RL 15 "java/lang/IllegalStateException" ∈ wsL_append := by decide +kernel
abbrev rm_L_append : Room := { frames := 7, cells := 1, slots := 6, locals := 103 }
theorem ok_L_append : yL_append.cls ≠ "java/lang/invoke/MethodHandle" ∧ yL_append.cls ≠ "java/lang/invoke/VarHandle" ∧ (parseMethodDescriptor yL_append.desc).map (fun d => d.parameters.length) = some 3 := by decide +kernel
set_option maxHeartbeats 2000000 in
theorem met_L_append {l : Launch} {D : va_G} {t : Nat → ClassId} {hB oA : Nat} {fs : List Value} {wc ws0 wr : va_W} (hp : ws0.Perm (wc ++ wr)) {x1 : Int} {S : Type} {W1 : S → va_W} {post : Int → S → Prop} {PX : va_W → Prop} {px : Nat → Prop} (f0 : Nat → Int64) (hM : XI l D t yX4_append wsX4_append rm_X4_append (.ref hB :: [.int (iI x1)]) wc W1 post PX px 1 6) (hrc : wc[0]? = some (hB, .inr (4, fs))) (hpx : ∀ j, px j → j = 0 ∨ j = 1) : MWi l D t yL_append wsL_append rm_L_append [.ref hB, .int (iI x1), .ref oA] (ws0 ++ [aJ t oA 1 f0]) (W1_wr t oA) (po_wr W1 post PX px wr cd10 vl) 1 6 := by
  refine M_ofw (cc := cL_append) (nL := 4) (hh := [(0, 9, 12, 13), (0, 9, 15, 15)]) (by decide) rfl (Nat.le_of_ble_eq_true rfl) ?_
  intro p e s m args below meth c A hc hG hT hr
  refine V_lv [0, 1, 2] [(0, .ref hB), (1, .int (iI x1)), (2, .ref oA)] rfl ?_
  refine V_aload_n hc dL_append_0 2 rfl ?_
  refine V_iconst hc dL_append_1 ?_
  refine V_aload_n hc dL_append_2 0 rfl ?_
  refine V_iload_n hc dL_append_3 1 rfl ?_
  refine V_tryVI (As := [.int (iI x1)]) (wc := wc) (wr := wr ++ [aJ t oA 1 f0]) hc (wpA _ hp) hrc rfl hM rfl gL_append_X4_append rfl ⟨rfl, rfl⟩ ok_X4_append (by decide) (Nat.le_of_ble_eq_true rfl) dL_append_4 ⟨Nat.le_of_ble_eq_true rfl, Nat.le_of_ble_eq_true rfl⟩ (fun j q9 W9 hj hW9 => ?_) (fun r u hpo => ?_)
  · rcases hpx j hj with rfl | rfl
    · refine ⟨[], (⟨0, 9, 12, 13⟩ : ExceptionTableEntry), [(⟨0, 9, 15, 15⟩ : ExceptionTableEntry)], "java/lang/IllegalArgumentException", hT, fun z hz => absurd hz List.not_mem_nil, by decide, by decide, m_L_append_c13, by decide, ?_⟩
      refine V_astore_n hc dL_append_12 [(3, .ref q9), (0, .ref hB), (1, .int (iI x1)), (2, .ref oA)] (by decide) rfl ?_
      refine V_iconst hc dL_append_13 ?_
      exact V_iret hc hr (W9 ++ wr, f0) (Or.inr ⟨0, W9, hj, rfl, hW9, rfl⟩) (List.append_assoc _ _ _).symm dL_append_14
    · refine ⟨[(⟨0, 9, 12, 13⟩ : ExceptionTableEntry)], (⟨0, 9, 15, 15⟩ : ExceptionTableEntry), [], "java/lang/IllegalStateException", hT, fun z hz => by rw [List.mem_singleton.mp hz]; exact ⟨by decide, "java/lang/IllegalArgumentException", m_L_append_c13, hG.1⟩, by decide, by decide, m_L_append_c15, by decide, ?_⟩
      refine V_astore_n hc dL_append_15 [(3, .ref q9), (0, .ref hB), (1, .int (iI x1)), (2, .ref oA)] (by decide) rfl ?_
      refine V_iconst hc dL_append_16 ?_
      exact V_iret hc hr (W9 ++ wr, f0) (Or.inr ⟨1, W9, hj, rfl, hW9, rfl⟩) (List.append_assoc _ _ _).symm dL_append_17
  · refine V_pm (ws1 := [aJ t oA 1 f0] ++ (W1 u ++ wr)) (wpB _ _ _) ?_
    refine V_i2l hc dL_append_7 ?_
    refine V_last hc 0 rfl dL_append_8 ([aJ t oA 1 (fun _ => vl r)] ++ (W1 u ++ wr)) rfl ?_
    refine V_goto (tgt := 18) hc dL_append_9 (by decide) ?_
    refine V_iconst hc dL_append_18 ?_
    refine V_pm (ws1 := (W1 u ++ wr) ++ [aJ t oA 1 (fun _ => vl r)]) List.perm_append_comm ?_
    exact V_iret hc hr (W1 u ++ wr, fun _ => vl r) (Or.inl ⟨rfl, r, u, hpo, rfl, rfl⟩) rfl dL_append_19
theorem m_L_execute_c13 : Cond.classLink RL 13 "java/lang/IllegalArgumentException" ∈ wsL_execute := by decide +kernel
abbrev rm_L_execute : Room := { frames := 7, cells := 1, slots := 6, locals := 200 }
theorem ok_L_execute : yL_execute.cls ≠ "java/lang/invoke/MethodHandle" ∧ yL_execute.cls ≠ "java/lang/invoke/VarHandle" ∧ (parseMethodDescriptor yL_execute.desc).map (fun d => d.parameters.length) = some 2 := by decide +kernel
set_option maxHeartbeats 2000000 in
theorem met_L_execute {l : Launch} {D : va_G} {t : Nat → ClassId} {hB oA : Nat} {fs : List Value} {wc ws0 wr : va_W} (hp : ws0.Perm (wc ++ wr)) {S : Type} {W1 : S → va_W} {post : Int → S → Prop} {PX : va_W → Prop} {px : Nat → Prop} (f0 : Nat → Int64) (hM : XI l D t yX4_execute wsX4_execute rm_X4_execute (.ref hB :: []) wc W1 post PX px 1 6) (hrc : wc[0]? = some (hB, .inr (4, fs))) (hpx : ∀ j, px j → j = 0) : MWi l D t yL_execute wsL_execute rm_L_execute [.ref hB, .ref oA] (ws0 ++ [aJ t oA 1 f0]) (W1_wr t oA) (po_wr W1 post PX px wr cd1 vl) 1 6 := by
  refine M_ofw (cc := cL_execute) (nL := 3) (hh := [(0, 8, 11, 13)]) (by decide) rfl (Nat.le_of_ble_eq_true rfl) ?_
  intro p e s m args below meth c A hc hG hT hr
  refine V_lv [0, 1] [(0, .ref hB), (1, .ref oA)] rfl ?_
  refine V_aload_n hc dL_execute_0 1 rfl ?_
  refine V_iconst hc dL_execute_1 ?_
  refine V_aload_n hc dL_execute_2 0 rfl ?_
  refine V_tryVI (As := []) (wc := wc) (wr := wr ++ [aJ t oA 1 f0]) hc (wpA _ hp) hrc rfl hM rfl gL_execute_X4_execute rfl ⟨rfl, rfl⟩ ok_X4_execute (by decide) (Nat.le_of_ble_eq_true rfl) dL_execute_3 ⟨Nat.le_of_ble_eq_true rfl, Nat.le_of_ble_eq_true rfl⟩ (fun j q9 W9 hj hW9 => ?_) (fun r u hpo => ?_)
  · obtain rfl := hpx j hj
    refine ⟨[], (⟨0, 8, 11, 13⟩ : ExceptionTableEntry), [], "java/lang/IllegalArgumentException", hT, fun z hz => absurd hz List.not_mem_nil, by decide, by decide, m_L_execute_c13, by decide, ?_⟩
    refine V_astore_n hc dL_execute_11 [(2, .ref q9), (0, .ref hB), (1, .ref oA)] (by decide) rfl ?_
    refine V_iconst hc dL_execute_12 ?_
    exact V_iret hc hr (W9 ++ wr, f0) (Or.inr ⟨0, W9, hj, rfl, hW9, rfl⟩) (List.append_assoc _ _ _).symm dL_execute_13
  · refine V_pm (ws1 := [aJ t oA 1 f0] ++ (W1 u ++ wr)) (wpB _ _ _) ?_
    refine V_i2l hc dL_execute_6 ?_
    refine V_last hc 0 rfl dL_execute_7 ([aJ t oA 1 (fun _ => vl r)] ++ (W1 u ++ wr)) rfl ?_
    refine V_goto (tgt := 14) hc dL_execute_8 (by decide) ?_
    refine V_iconst hc dL_execute_14 ?_
    refine V_pm (ws1 := (W1 u ++ wr) ++ [aJ t oA 1 (fun _ => vl r)]) List.perm_append_comm ?_
    exact V_iret hc hr (W1 u ++ wr, fun _ => vl r) (Or.inl ⟨rfl, r, u, hpo, rfl, rfl⟩) rfl dL_execute_15
theorem m_L_undo_c15 : Cond.classLink RL 15 "java/lang/IllegalStateException" ∈ wsL_undo := by decide +kernel
abbrev rm_L_undo : Room := { frames := 7, cells := 1, slots := 6, locals := 143 }
theorem ok_L_undo : yL_undo.cls ≠ "java/lang/invoke/MethodHandle" ∧ yL_undo.cls ≠ "java/lang/invoke/VarHandle" ∧ (parseMethodDescriptor yL_undo.desc).map (fun d => d.parameters.length) = some 2 := by decide +kernel
set_option maxHeartbeats 2000000 in
theorem met_L_undo {l : Launch} {D : va_G} {t : Nat → ClassId} {hB oA : Nat} {fs : List Value} {wc ws0 wr : va_W} (hp : ws0.Perm (wc ++ wr)) {S : Type} {W1 : S → va_W} {post : Int → S → Prop} {PX : va_W → Prop} {px : Nat → Prop} (f0 : Nat → Int64) (hM : XI l D t yX4_undo wsX4_undo rm_X4_undo (.ref hB :: []) wc W1 post PX px 1 6) (hrc : wc[0]? = some (hB, .inr (4, fs))) (hpx : ∀ j, px j → j = 1) : MWi l D t yL_undo wsL_undo rm_L_undo [.ref hB, .ref oA] (ws0 ++ [aJ t oA 1 f0]) (W1_wr t oA) (po_wr W1 post PX px wr cd1 vl) 1 6 := by
  refine M_ofw (cc := cL_undo) (nL := 3) (hh := [(0, 8, 11, 15)]) (by decide) rfl (Nat.le_of_ble_eq_true rfl) ?_
  intro p e s m args below meth c A hc hG hT hr
  refine V_lv [0, 1] [(0, .ref hB), (1, .ref oA)] rfl ?_
  refine V_aload_n hc dL_undo_0 1 rfl ?_
  refine V_iconst hc dL_undo_1 ?_
  refine V_aload_n hc dL_undo_2 0 rfl ?_
  refine V_tryVI (As := []) (wc := wc) (wr := wr ++ [aJ t oA 1 f0]) hc (wpA _ hp) hrc rfl hM rfl gL_undo_X4_undo rfl ⟨rfl, rfl⟩ ok_X4_undo (by decide) (Nat.le_of_ble_eq_true rfl) dL_undo_3 ⟨Nat.le_of_ble_eq_true rfl, Nat.le_of_ble_eq_true rfl⟩ (fun j q9 W9 hj hW9 => ?_) (fun r u hpo => ?_)
  · obtain rfl := hpx j hj
    refine ⟨[], (⟨0, 8, 11, 15⟩ : ExceptionTableEntry), [], "java/lang/IllegalStateException", hT, fun z hz => absurd hz List.not_mem_nil, by decide, by decide, m_L_undo_c15, by decide, ?_⟩
    refine V_astore_n hc dL_undo_11 [(2, .ref q9), (0, .ref hB), (1, .ref oA)] (by decide) rfl ?_
    refine V_iconst hc dL_undo_12 ?_
    exact V_iret hc hr (W9 ++ wr, f0) (Or.inr ⟨1, W9, hj, rfl, hW9, rfl⟩) (List.append_assoc _ _ _).symm dL_undo_13
  · refine V_pm (ws1 := [aJ t oA 1 f0] ++ (W1 u ++ wr)) (wpB _ _ _) ?_
    refine V_i2l hc dL_undo_6 ?_
    refine V_last hc 0 rfl dL_undo_7 ([aJ t oA 1 (fun _ => vl r)] ++ (W1 u ++ wr)) rfl ?_
    refine V_goto (tgt := 14) hc dL_undo_8 (by decide) ?_
    refine V_iconst hc dL_undo_14 ?_
    refine V_pm (ws1 := (W1 u ++ wr) ++ [aJ t oA 1 (fun _ => vl r)]) List.perm_append_comm ?_
    exact V_iret hc hr (W1 u ++ wr, fun _ => vl r) (Or.inl ⟨rfl, r, u, hpo, rfl, rfl⟩) rfl dL_undo_15
theorem m_L_keep_c13 : Cond.classLink RL 13 "java/lang/IllegalArgumentException" ∈ wsL_keep := by decide +kernel
abbrev rm_L_keep : Room := { frames := 8, cells := 1, slots := 6, locals := 144 }
theorem ok_L_keep : yL_keep.cls ≠ "java/lang/invoke/MethodHandle" ∧ yL_keep.cls ≠ "java/lang/invoke/VarHandle" ∧ (parseMethodDescriptor yL_keep.desc).map (fun d => d.parameters.length) = some 3 := by decide +kernel
set_option maxHeartbeats 2000000 in
theorem met_L_keep {l : Launch} {D : va_G} {t : Nat → ClassId} {hB oA : Nat} {fs : List Value} {wc ws0 wr : va_W} (hp : ws0.Perm (wc ++ wr)) {x1 : Int} {S : Type} {W1 : S → va_W} {post : Int → S → Prop} {PX : va_W → Prop} {px : Nat → Prop} (f0 : Nat → Int64) (hM : XI l D t yX4_keep wsX4_keep rm_X4_keep (.ref hB :: [.int (iI x1)]) wc W1 post PX px 1 6) (hrc : wc[0]? = some (hB, .inr (4, fs))) (hpx : ∀ j, px j → j = 0) : MWi l D t yL_keep wsL_keep rm_L_keep [.ref hB, .int (iI x1), .ref oA] (ws0 ++ [aJ t oA 1 f0]) (W1_wr t oA) (po_wr W1 post PX px wr cd1 vl) 1 6 := by
  refine M_ofw (cc := cL_keep) (nL := 4) (hh := [(0, 9, 12, 13)]) (by decide) rfl (Nat.le_of_ble_eq_true rfl) ?_
  intro p e s m args below meth c A hc hG hT hr
  refine V_lv [0, 1, 2] [(0, .ref hB), (1, .int (iI x1)), (2, .ref oA)] rfl ?_
  refine V_aload_n hc dL_keep_0 2 rfl ?_
  refine V_iconst hc dL_keep_1 ?_
  refine V_aload_n hc dL_keep_2 0 rfl ?_
  refine V_iload_n hc dL_keep_3 1 rfl ?_
  refine V_tryVI (As := [.int (iI x1)]) (wc := wc) (wr := wr ++ [aJ t oA 1 f0]) hc (wpA _ hp) hrc rfl hM rfl gL_keep_X4_keep rfl ⟨rfl, rfl⟩ ok_X4_keep (by decide) (Nat.le_of_ble_eq_true rfl) dL_keep_4 ⟨Nat.le_of_ble_eq_true rfl, Nat.le_of_ble_eq_true rfl⟩ (fun j q9 W9 hj hW9 => ?_) (fun r u hpo => ?_)
  · obtain rfl := hpx j hj
    refine ⟨[], (⟨0, 9, 12, 13⟩ : ExceptionTableEntry), [], "java/lang/IllegalArgumentException", hT, fun z hz => absurd hz List.not_mem_nil, by decide, by decide, m_L_keep_c13, by decide, ?_⟩
    refine V_astore_n hc dL_keep_12 [(3, .ref q9), (0, .ref hB), (1, .int (iI x1)), (2, .ref oA)] (by decide) rfl ?_
    refine V_iconst hc dL_keep_13 ?_
    exact V_iret hc hr (W9 ++ wr, f0) (Or.inr ⟨0, W9, hj, rfl, hW9, rfl⟩) (List.append_assoc _ _ _).symm dL_keep_14
  · refine V_pm (ws1 := [aJ t oA 1 f0] ++ (W1 u ++ wr)) (wpB _ _ _) ?_
    refine V_i2l hc dL_keep_7 ?_
    refine V_last hc 0 rfl dL_keep_8 ([aJ t oA 1 (fun _ => vl r)] ++ (W1 u ++ wr)) rfl ?_
    refine V_goto (tgt := 15) hc dL_keep_9 (by decide) ?_
    refine V_iconst hc dL_keep_15 ?_
    refine V_pm (ws1 := (W1 u ++ wr) ++ [aJ t oA 1 (fun _ => vl r)]) List.perm_append_comm ?_
    exact V_iret hc hr (W1 u ++ wr, fun _ => vl r) (Or.inl ⟨rfl, r, u, hpo, rfl, rfl⟩) rfl dL_keep_16
theorem m_L_goBack_c13 : Cond.classLink RL 13 "java/lang/IllegalArgumentException" ∈ wsL_goBack := by decide +kernel
theorem m_L_goBack_c15 : Cond.classLink RL 15 "java/lang/IllegalStateException" ∈ wsL_goBack := by decide +kernel
abbrev rm_L_goBack : Room := { frames := 8, cells := 2, slots := 12, locals := 164 }
theorem ok_L_goBack : yL_goBack.cls ≠ "java/lang/invoke/MethodHandle" ∧ yL_goBack.cls ≠ "java/lang/invoke/VarHandle" ∧ (parseMethodDescriptor yL_goBack.desc).map (fun d => d.parameters.length) = some 3 := by decide +kernel
set_option maxHeartbeats 2000000 in
theorem met_L_goBack {l : Launch} {D : va_G} {t : Nat → ClassId} {hB oA : Nat} {fs : List Value} {wc ws0 wr : va_W} (hp : ws0.Perm (wc ++ wr)) {x1 : Int} {S : Type} {W1 : S → va_W} {post : Int → S → Prop} {PX : va_W → Prop} {px : Nat → Prop} (f0 : Nat → Int64) (hM : XI l D t yX4_goBack wsX4_goBack rm_X4_goBack (.ref hB :: [.int (iI x1)]) wc W1 post PX px 2 12) (hrc : wc[0]? = some (hB, .inr (4, fs))) (hpx : ∀ j, px j → j = 0 ∨ j = 1) : MWi l D t yL_goBack wsL_goBack rm_L_goBack [.ref hB, .int (iI x1), .ref oA] (ws0 ++ [aJ t oA 1 f0]) (W1_wr t oA) (po_wr W1 post PX px wr cd10 vl) 2 12 := by
  refine M_ofw (cc := cL_goBack) (nL := 4) (hh := [(0, 9, 12, 13), (0, 9, 15, 15)]) (by decide) rfl (Nat.le_of_ble_eq_true rfl) ?_
  intro p e s m args below meth c A hc hG hT hr
  refine V_lv [0, 1, 2] [(0, .ref hB), (1, .int (iI x1)), (2, .ref oA)] rfl ?_
  refine V_aload_n hc dL_goBack_0 2 rfl ?_
  refine V_iconst hc dL_goBack_1 ?_
  refine V_aload_n hc dL_goBack_2 0 rfl ?_
  refine V_iload_n hc dL_goBack_3 1 rfl ?_
  refine V_tryVI (As := [.int (iI x1)]) (wc := wc) (wr := wr ++ [aJ t oA 1 f0]) hc (wpA _ hp) hrc rfl hM rfl gL_goBack_X4_goBack rfl ⟨rfl, rfl⟩ ok_X4_goBack (by decide) (Nat.le_of_ble_eq_true rfl) dL_goBack_4 ⟨Nat.le_of_ble_eq_true rfl, Nat.le_of_ble_eq_true rfl⟩ (fun j q9 W9 hj hW9 => ?_) (fun r u hpo => ?_)
  · rcases hpx j hj with rfl | rfl
    · refine ⟨[], (⟨0, 9, 12, 13⟩ : ExceptionTableEntry), [(⟨0, 9, 15, 15⟩ : ExceptionTableEntry)], "java/lang/IllegalArgumentException", hT, fun z hz => absurd hz List.not_mem_nil, by decide, by decide, m_L_goBack_c13, by decide, ?_⟩
      refine V_astore_n hc dL_goBack_12 [(3, .ref q9), (0, .ref hB), (1, .int (iI x1)), (2, .ref oA)] (by decide) rfl ?_
      refine V_iconst hc dL_goBack_13 ?_
      exact V_iret hc hr (W9 ++ wr, f0) (Or.inr ⟨0, W9, hj, rfl, hW9, rfl⟩) (List.append_assoc _ _ _).symm dL_goBack_14
    · refine ⟨[(⟨0, 9, 12, 13⟩ : ExceptionTableEntry)], (⟨0, 9, 15, 15⟩ : ExceptionTableEntry), [], "java/lang/IllegalStateException", hT, fun z hz => by rw [List.mem_singleton.mp hz]; exact ⟨by decide, "java/lang/IllegalArgumentException", m_L_goBack_c13, hG.1⟩, by decide, by decide, m_L_goBack_c15, by decide, ?_⟩
      refine V_astore_n hc dL_goBack_15 [(3, .ref q9), (0, .ref hB), (1, .int (iI x1)), (2, .ref oA)] (by decide) rfl ?_
      refine V_iconst hc dL_goBack_16 ?_
      exact V_iret hc hr (W9 ++ wr, f0) (Or.inr ⟨1, W9, hj, rfl, hW9, rfl⟩) (List.append_assoc _ _ _).symm dL_goBack_17
  · refine V_pm (ws1 := [aJ t oA 1 f0] ++ (W1 u ++ wr)) (wpB _ _ _) ?_
    refine V_i2l hc dL_goBack_7 ?_
    refine V_last hc 0 rfl dL_goBack_8 ([aJ t oA 1 (fun _ => vl r)] ++ (W1 u ++ wr)) rfl ?_
    refine V_goto (tgt := 18) hc dL_goBack_9 (by decide) ?_
    refine V_iconst hc dL_goBack_18 ?_
    refine V_pm (ws1 := (W1 u ++ wr) ++ [aJ t oA 1 (fun _ => vl r)]) List.perm_append_comm ?_
    exact V_iret hc hr (W1 u ++ wr, fun _ => vl r) (Or.inl ⟨rfl, r, u, hpo, rfl, rfl⟩) rfl dL_goBack_19
theorem m_L_contains_c13 : Cond.classLink RL 13 "java/lang/IllegalArgumentException" ∈ wsL_contains := by decide +kernel
abbrev rm_L_contains : Room := { frames := 8, cells := 1, slots := 6, locals := 123 }
theorem ok_L_contains : yL_contains.cls ≠ "java/lang/invoke/MethodHandle" ∧ yL_contains.cls ≠ "java/lang/invoke/VarHandle" ∧ (parseMethodDescriptor yL_contains.desc).map (fun d => d.parameters.length) = some 3 := by decide +kernel
set_option maxHeartbeats 2000000 in
theorem met_L_contains {l : Launch} {D : va_G} {t : Nat → ClassId} {hB oA : Nat} {fs : List Value} {wc ws0 wr : va_W} (hp : ws0.Perm (wc ++ wr)) {x1 : Int} {S : Type} {W1 : S → va_W} {post : Int → S → Prop} {PX : va_W → Prop} {px : Nat → Prop} (f0 : Nat → Int64) (hM : XI l D t yX4_contains wsX4_contains rm_X4_contains (.ref hB :: [.int (iI x1)]) wc W1 post PX px 1 6) (hrc : wc[0]? = some (hB, .inr (4, fs))) (hpx : ∀ j, px j → j = 0) (hbl : ∀ v w, post v w → v = 0 ∨ v = 1) : MWi l D t yL_contains wsL_contains rm_L_contains [.ref hB, .int (iI x1), .ref oA] (ws0 ++ [aJ t oA 1 f0]) (W1_wr t oA) (po_wr W1 post PX px wr cd1 vlb) 1 6 := by
  refine M_ofw (cc := cL_contains) (nL := 4) (hh := [(0, 16, 19, 13)]) (by decide) rfl (Nat.le_of_ble_eq_true rfl) ?_
  intro p e s m args below meth c A hc hG hT hr
  refine V_lv [0, 1, 2] [(0, .ref hB), (1, .int (iI x1)), (2, .ref oA)] rfl ?_
  refine V_aload_n hc dL_contains_0 2 rfl ?_
  refine V_iconst hc dL_contains_1 ?_
  refine V_aload_n hc dL_contains_2 0 rfl ?_
  refine V_iload_n hc dL_contains_3 1 rfl ?_
  refine V_tryVI (As := [.int (iI x1)]) (wc := wc) (wr := wr ++ [aJ t oA 1 f0]) hc (wpA _ hp) hrc rfl hM rfl gL_contains_X4_contains rfl ⟨rfl, rfl⟩ ok_X4_contains (by decide) (Nat.le_of_ble_eq_true rfl) dL_contains_4 ⟨Nat.le_of_ble_eq_true rfl, Nat.le_of_ble_eq_true rfl⟩ (fun j q9 W9 hj hW9 => ?_) (fun r u hpo => ?_)
  · obtain rfl := hpx j hj
    refine ⟨[], (⟨0, 16, 19, 13⟩ : ExceptionTableEntry), [], "java/lang/IllegalArgumentException", hT, fun z hz => absurd hz List.not_mem_nil, by decide, by decide, m_L_contains_c13, by decide, ?_⟩
    refine V_astore_n hc dL_contains_19 [(3, .ref q9), (0, .ref hB), (1, .int (iI x1)), (2, .ref oA)] (by decide) rfl ?_
    refine V_iconst hc dL_contains_20 ?_
    exact V_iret hc hr (W9 ++ wr, f0) (Or.inr ⟨0, W9, hj, rfl, hW9, rfl⟩) (List.append_assoc _ _ _).symm dL_contains_21
  · refine V_pm (ws1 := [aJ t oA 1 f0] ++ (W1 u ++ wr)) (wpB _ _ _) ?_
    have hb := hbl r u hpo
    refine V_if_eq (X := r = 0) (Y := ¬ r = 0) (tgt := 14) hc dL_contains_7 (by decide) ⟨by omega, id, id⟩ (fun h => ?_) (fun h => ?_)
    · refine V_lconst hc dL_contains_14 ?_
      refine V_last hc 0 rfl dL_contains_15 ([aJ t oA 1 (fun _ => (0 : Int64))] ++ (W1 u ++ wr)) rfl ?_
      refine V_goto (tgt := 22) hc dL_contains_16 (by decide) ?_
      refine V_iconst hc dL_contains_22 ?_
      refine V_pm (ws1 := (W1 u ++ wr) ++ [aJ t oA 1 (fun _ => (0 : Int64))]) List.perm_append_comm ?_
      exact V_iret hc hr (W1 u ++ wr, fun _ => (0 : Int64)) (Or.inl ⟨rfl, r, u, hpo, rfl, by rw [vlb, if_pos h]⟩) rfl dL_contains_23
    · refine V_lconst hc dL_contains_10 ?_
      refine V_goto (tgt := 15) hc dL_contains_11 (by decide) ?_
      refine V_last hc 0 rfl dL_contains_15 ([aJ t oA 1 (fun _ => (1 : Int64))] ++ (W1 u ++ wr)) rfl ?_
      refine V_goto (tgt := 22) hc dL_contains_16 (by decide) ?_
      refine V_iconst hc dL_contains_22 ?_
      refine V_pm (ws1 := (W1 u ++ wr) ++ [aJ t oA 1 (fun _ => (1 : Int64))]) List.perm_append_comm ?_
      exact V_iret hc hr (W1 u ++ wr, fun _ => (1 : Int64)) (Or.inl ⟨rfl, r, u, hpo, rfl, by rw [vlb, if_neg h]⟩) rfl dL_contains_23
theorem m_L_near_c13 : Cond.classLink RL 13 "java/lang/IllegalArgumentException" ∈ wsL_near := by decide +kernel
abbrev rm_L_near : Room := { frames := 8, cells := 2, slots := 12, locals := 125 }
theorem ok_L_near : yL_near.cls ≠ "java/lang/invoke/MethodHandle" ∧ yL_near.cls ≠ "java/lang/invoke/VarHandle" ∧ (parseMethodDescriptor yL_near.desc).map (fun d => d.parameters.length) = some 4 := by decide +kernel
set_option maxHeartbeats 2000000 in
theorem met_L_near {l : Launch} {D : va_G} {t : Nat → ClassId} {hB oA : Nat} {fs : List Value} {wc ws0 wr : va_W} (hp : ws0.Perm (wc ++ wr)) {x1 x2 : Int} {S : Type} {W1 : S → va_W} {post : Int → S → Prop} {PX : va_W → Prop} {px : Nat → Prop} (f0 : Nat → Int64) (hM : XI l D t yX4_near wsX4_near rm_X4_near (.ref hB :: [.int (iI x1), .int (iI x2)]) wc W1 post PX px 2 12) (hrc : wc[0]? = some (hB, .inr (4, fs))) (hpx : ∀ j, px j → j = 0) : MWi l D t yL_near wsL_near rm_L_near [.ref hB, .int (iI x1), .int (iI x2), .ref oA] (ws0 ++ [aJ t oA 1 f0]) (W1_wr t oA) (po_wr W1 post PX px wr cd1 vl) 2 12 := by
  refine M_ofw (cc := cL_near) (nL := 5) (hh := [(0, 10, 13, 13)]) (by decide) rfl (Nat.le_of_ble_eq_true rfl) ?_
  intro p e s m args below meth c A hc hG hT hr
  refine V_lv [0, 1, 2, 3] [(0, .ref hB), (1, .int (iI x1)), (2, .int (iI x2)), (3, .ref oA)] rfl ?_
  refine V_aload_n hc dL_near_0 3 rfl ?_
  refine V_iconst hc dL_near_1 ?_
  refine V_aload_n hc dL_near_2 0 rfl ?_
  refine V_iload_n hc dL_near_3 1 rfl ?_
  refine V_iload_n hc dL_near_4 2 rfl ?_
  refine V_tryVI (As := [.int (iI x1), .int (iI x2)]) (wc := wc) (wr := wr ++ [aJ t oA 1 f0]) hc (wpA _ hp) hrc rfl hM rfl gL_near_X4_near rfl ⟨rfl, rfl⟩ ok_X4_near (by decide) (Nat.le_of_ble_eq_true rfl) dL_near_5 ⟨Nat.le_of_ble_eq_true rfl, Nat.le_of_ble_eq_true rfl⟩ (fun j q9 W9 hj hW9 => ?_) (fun r u hpo => ?_)
  · obtain rfl := hpx j hj
    refine ⟨[], (⟨0, 10, 13, 13⟩ : ExceptionTableEntry), [], "java/lang/IllegalArgumentException", hT, fun z hz => absurd hz List.not_mem_nil, by decide, by decide, m_L_near_c13, by decide, ?_⟩
    refine V_astore hc dL_near_13 [(4, .ref q9), (0, .ref hB), (1, .int (iI x1)), (2, .int (iI x2)), (3, .ref oA)] (by decide) rfl ?_
    refine V_iconst hc dL_near_15 ?_
    exact V_iret hc hr (W9 ++ wr, f0) (Or.inr ⟨0, W9, hj, rfl, hW9, rfl⟩) (List.append_assoc _ _ _).symm dL_near_16
  · refine V_pm (ws1 := [aJ t oA 1 f0] ++ (W1 u ++ wr)) (wpB _ _ _) ?_
    refine V_i2l hc dL_near_8 ?_
    refine V_last hc 0 rfl dL_near_9 ([aJ t oA 1 (fun _ => vl r)] ++ (W1 u ++ wr)) rfl ?_
    refine V_goto (tgt := 17) hc dL_near_10 (by decide) ?_
    refine V_iconst hc dL_near_17 ?_
    refine V_pm (ws1 := (W1 u ++ wr) ++ [aJ t oA 1 (fun _ => vl r)]) List.perm_append_comm ?_
    exact V_iret hc hr (W1 u ++ wr, fun _ => vl r) (Or.inl ⟨rfl, r, u, hpo, rfl, rfl⟩) rfl dL_near_18
theorem m_L_rank_c13 : Cond.classLink RL 13 "java/lang/IllegalArgumentException" ∈ wsL_rank := by decide +kernel
abbrev rm_L_rank : Room := { frames := 8, cells := 1, slots := 6, locals := 123 }
theorem ok_L_rank : yL_rank.cls ≠ "java/lang/invoke/MethodHandle" ∧ yL_rank.cls ≠ "java/lang/invoke/VarHandle" ∧ (parseMethodDescriptor yL_rank.desc).map (fun d => d.parameters.length) = some 3 := by decide +kernel
set_option maxHeartbeats 2000000 in
theorem met_L_rank {l : Launch} {D : va_G} {t : Nat → ClassId} {hB oA : Nat} {fs : List Value} {wc ws0 wr : va_W} (hp : ws0.Perm (wc ++ wr)) {x1 : Int} {S : Type} {W1 : S → va_W} {post : Int → S → Prop} {PX : va_W → Prop} {px : Nat → Prop} (f0 : Nat → Int64) (hM : XI l D t yX4_rank wsX4_rank rm_X4_rank (.ref hB :: [.int (iI x1)]) wc W1 post PX px 1 6) (hrc : wc[0]? = some (hB, .inr (4, fs))) (hpx : ∀ j, px j → j = 0) : MWi l D t yL_rank wsL_rank rm_L_rank [.ref hB, .int (iI x1), .ref oA] (ws0 ++ [aJ t oA 1 f0]) (W1_wr t oA) (po_wr W1 post PX px wr cd1 vl) 1 6 := by
  refine M_ofw (cc := cL_rank) (nL := 4) (hh := [(0, 9, 12, 13)]) (by decide) rfl (Nat.le_of_ble_eq_true rfl) ?_
  intro p e s m args below meth c A hc hG hT hr
  refine V_lv [0, 1, 2] [(0, .ref hB), (1, .int (iI x1)), (2, .ref oA)] rfl ?_
  refine V_aload_n hc dL_rank_0 2 rfl ?_
  refine V_iconst hc dL_rank_1 ?_
  refine V_aload_n hc dL_rank_2 0 rfl ?_
  refine V_iload_n hc dL_rank_3 1 rfl ?_
  refine V_tryVI (As := [.int (iI x1)]) (wc := wc) (wr := wr ++ [aJ t oA 1 f0]) hc (wpA _ hp) hrc rfl hM rfl gL_rank_X4_rank rfl ⟨rfl, rfl⟩ ok_X4_rank (by decide) (Nat.le_of_ble_eq_true rfl) dL_rank_4 ⟨Nat.le_of_ble_eq_true rfl, Nat.le_of_ble_eq_true rfl⟩ (fun j q9 W9 hj hW9 => ?_) (fun r u hpo => ?_)
  · obtain rfl := hpx j hj
    refine ⟨[], (⟨0, 9, 12, 13⟩ : ExceptionTableEntry), [], "java/lang/IllegalArgumentException", hT, fun z hz => absurd hz List.not_mem_nil, by decide, by decide, m_L_rank_c13, by decide, ?_⟩
    refine V_astore_n hc dL_rank_12 [(3, .ref q9), (0, .ref hB), (1, .int (iI x1)), (2, .ref oA)] (by decide) rfl ?_
    refine V_iconst hc dL_rank_13 ?_
    exact V_iret hc hr (W9 ++ wr, f0) (Or.inr ⟨0, W9, hj, rfl, hW9, rfl⟩) (List.append_assoc _ _ _).symm dL_rank_14
  · refine V_pm (ws1 := [aJ t oA 1 f0] ++ (W1 u ++ wr)) (wpB _ _ _) ?_
    refine V_i2l hc dL_rank_7 ?_
    refine V_last hc 0 rfl dL_rank_8 ([aJ t oA 1 (fun _ => vl r)] ++ (W1 u ++ wr)) rfl ?_
    refine V_goto (tgt := 15) hc dL_rank_9 (by decide) ?_
    refine V_iconst hc dL_rank_15 ?_
    refine V_pm (ws1 := (W1 u ++ wr) ++ [aJ t oA 1 (fun _ => vl r)]) List.perm_append_comm ?_
    exact V_iret hc hr (W1 u ++ wr, fun _ => vl r) (Or.inl ⟨rfl, r, u, hpo, rfl, rfl⟩) rfl dL_rank_16
theorem m_L_keyAt_c13 : Cond.classLink RL 13 "java/lang/IllegalArgumentException" ∈ wsL_keyAt := by decide +kernel
abbrev rm_L_keyAt : Room := { frames := 7, cells := 1, slots := 6, locals := 105 }
theorem ok_L_keyAt : yL_keyAt.cls ≠ "java/lang/invoke/MethodHandle" ∧ yL_keyAt.cls ≠ "java/lang/invoke/VarHandle" ∧ (parseMethodDescriptor yL_keyAt.desc).map (fun d => d.parameters.length) = some 3 := by decide +kernel
set_option maxHeartbeats 2000000 in
theorem met_L_keyAt {l : Launch} {D : va_G} {t : Nat → ClassId} {hB oA : Nat} {fs : List Value} {wc ws0 wr : va_W} (hp : ws0.Perm (wc ++ wr)) {x1 : Int} {S : Type} {W1 : S → va_W} {post : Int → S → Prop} {PX : va_W → Prop} {px : Nat → Prop} (f0 : Nat → Int64) (hM : XI l D t yX4_keyAt wsX4_keyAt rm_X4_keyAt (.ref hB :: [.int (iI x1)]) wc W1 post PX px 1 6) (hrc : wc[0]? = some (hB, .inr (4, fs))) (hpx : ∀ j, px j → j = 0) : MWi l D t yL_keyAt wsL_keyAt rm_L_keyAt [.ref hB, .int (iI x1), .ref oA] (ws0 ++ [aJ t oA 1 f0]) (W1_wr t oA) (po_wr W1 post PX px wr cd1 vl) 1 6 := by
  refine M_ofw (cc := cL_keyAt) (nL := 4) (hh := [(0, 9, 12, 13)]) (by decide) rfl (Nat.le_of_ble_eq_true rfl) ?_
  intro p e s m args below meth c A hc hG hT hr
  refine V_lv [0, 1, 2] [(0, .ref hB), (1, .int (iI x1)), (2, .ref oA)] rfl ?_
  refine V_aload_n hc dL_keyAt_0 2 rfl ?_
  refine V_iconst hc dL_keyAt_1 ?_
  refine V_aload_n hc dL_keyAt_2 0 rfl ?_
  refine V_iload_n hc dL_keyAt_3 1 rfl ?_
  refine V_tryVI (As := [.int (iI x1)]) (wc := wc) (wr := wr ++ [aJ t oA 1 f0]) hc (wpA _ hp) hrc rfl hM rfl gL_keyAt_X4_keyAt rfl ⟨rfl, rfl⟩ ok_X4_keyAt (by decide) (Nat.le_of_ble_eq_true rfl) dL_keyAt_4 ⟨Nat.le_of_ble_eq_true rfl, Nat.le_of_ble_eq_true rfl⟩ (fun j q9 W9 hj hW9 => ?_) (fun r u hpo => ?_)
  · obtain rfl := hpx j hj
    refine ⟨[], (⟨0, 9, 12, 13⟩ : ExceptionTableEntry), [], "java/lang/IllegalArgumentException", hT, fun z hz => absurd hz List.not_mem_nil, by decide, by decide, m_L_keyAt_c13, by decide, ?_⟩
    refine V_astore_n hc dL_keyAt_12 [(3, .ref q9), (0, .ref hB), (1, .int (iI x1)), (2, .ref oA)] (by decide) rfl ?_
    refine V_iconst hc dL_keyAt_13 ?_
    exact V_iret hc hr (W9 ++ wr, f0) (Or.inr ⟨0, W9, hj, rfl, hW9, rfl⟩) (List.append_assoc _ _ _).symm dL_keyAt_14
  · refine V_pm (ws1 := [aJ t oA 1 f0] ++ (W1 u ++ wr)) (wpB _ _ _) ?_
    refine V_i2l hc dL_keyAt_7 ?_
    refine V_last hc 0 rfl dL_keyAt_8 ([aJ t oA 1 (fun _ => vl r)] ++ (W1 u ++ wr)) rfl ?_
    refine V_goto (tgt := 15) hc dL_keyAt_9 (by decide) ?_
    refine V_iconst hc dL_keyAt_15 ?_
    refine V_pm (ws1 := (W1 u ++ wr) ++ [aJ t oA 1 (fun _ => vl r)]) List.perm_append_comm ?_
    exact V_iret hc hr (W1 u ++ wr, fun _ => vl r) (Or.inl ⟨rfl, r, u, hpo, rfl, rfl⟩) rfl dL_keyAt_16
theorem m_L_node_c13 : Cond.classLink RL 13 "java/lang/IllegalArgumentException" ∈ wsL_node := by decide +kernel
abbrev rm_L_node : Room := { frames := 8, cells := 1, slots := 6, locals := 127 }
theorem ok_L_node : yL_node.cls ≠ "java/lang/invoke/MethodHandle" ∧ yL_node.cls ≠ "java/lang/invoke/VarHandle" ∧ (parseMethodDescriptor yL_node.desc).map (fun d => d.parameters.length) = some 5 := by decide +kernel
set_option maxHeartbeats 2000000 in
theorem met_L_node {l : Launch} {D : va_G} {t : Nat → ClassId} {hB oA : Nat} {fs : List Value} {wc ws0 wr : va_W} (hp : ws0.Perm (wc ++ wr)) {x1 x2 x3 : Int} {S : Type} {W1 : S → va_W} {post : Int → S → Prop} {PX : va_W → Prop} {px : Nat → Prop} (f0 : Nat → Int64) (hM : XI l D t yX4_node wsX4_node rm_X4_node (.ref hB :: [.int (iI x1), .int (iI x2), .int (iI x3)]) wc W1 post PX px 1 6) (hrc : wc[0]? = some (hB, .inr (4, fs))) (hpx : ∀ j, px j → j = 0) : MWi l D t yL_node wsL_node rm_L_node [.ref hB, .int (iI x1), .int (iI x2), .int (iI x3), .ref oA] (ws0 ++ [aJ t oA 1 f0]) (W1_wr t oA) (po_wr W1 post PX px wr cd1 vl) 1 6 := by
  refine M_ofw (cc := cL_node) (nL := 6) (hh := [(0, 12, 15, 13)]) (by decide) rfl (Nat.le_of_ble_eq_true rfl) ?_
  intro p e s m args below meth c A hc hG hT hr
  refine V_lv [0, 1, 2, 3, 4] [(0, .ref hB), (1, .int (iI x1)), (2, .int (iI x2)), (3, .int (iI x3)), (4, .ref oA)] rfl ?_
  refine V_aload hc dL_node_0 4 rfl ?_
  refine V_iconst hc dL_node_2 ?_
  refine V_aload_n hc dL_node_3 0 rfl ?_
  refine V_iload_n hc dL_node_4 1 rfl ?_
  refine V_iload_n hc dL_node_5 2 rfl ?_
  refine V_iload_n hc dL_node_6 3 rfl ?_
  refine V_tryVI (As := [.int (iI x1), .int (iI x2), .int (iI x3)]) (wc := wc) (wr := wr ++ [aJ t oA 1 f0]) hc (wpA _ hp) hrc rfl hM rfl gL_node_X4_node rfl ⟨rfl, rfl⟩ ok_X4_node (by decide) (Nat.le_of_ble_eq_true rfl) dL_node_7 ⟨Nat.le_of_ble_eq_true rfl, Nat.le_of_ble_eq_true rfl⟩ (fun j q9 W9 hj hW9 => ?_) (fun r u hpo => ?_)
  · obtain rfl := hpx j hj
    refine ⟨[], (⟨0, 12, 15, 13⟩ : ExceptionTableEntry), [], "java/lang/IllegalArgumentException", hT, fun z hz => absurd hz List.not_mem_nil, by decide, by decide, m_L_node_c13, by decide, ?_⟩
    refine V_astore hc dL_node_15 [(5, .ref q9), (0, .ref hB), (1, .int (iI x1)), (2, .int (iI x2)), (3, .int (iI x3)), (4, .ref oA)] (by decide) rfl ?_
    refine V_iconst hc dL_node_17 ?_
    exact V_iret hc hr (W9 ++ wr, f0) (Or.inr ⟨0, W9, hj, rfl, hW9, rfl⟩) (List.append_assoc _ _ _).symm dL_node_18
  · refine V_pm (ws1 := [aJ t oA 1 f0] ++ (W1 u ++ wr)) (wpB _ _ _) ?_
    refine V_i2l hc dL_node_10 ?_
    refine V_last hc 0 rfl dL_node_11 ([aJ t oA 1 (fun _ => vl r)] ++ (W1 u ++ wr)) rfl ?_
    refine V_goto (tgt := 19) hc dL_node_12 (by decide) ?_
    refine V_iconst hc dL_node_19 ?_
    refine V_pm (ws1 := (W1 u ++ wr) ++ [aJ t oA 1 (fun _ => vl r)]) List.perm_append_comm ?_
    exact V_iret hc hr (W1 u ++ wr, fun _ => vl r) (Or.inl ⟨rfl, r, u, hpo, rfl, rfl⟩) rfl dL_node_20
theorem m_L_path_c13 : Cond.classLink RL 13 "java/lang/IllegalArgumentException" ∈ wsL_path := by decide +kernel
abbrev rm_L_path : Room := { frames := 8, cells := 2, slots := 12, locals := 124 }
theorem ok_L_path : yL_path.cls ≠ "java/lang/invoke/MethodHandle" ∧ yL_path.cls ≠ "java/lang/invoke/VarHandle" ∧ (parseMethodDescriptor yL_path.desc).map (fun d => d.parameters.length) = some 4 := by decide +kernel
set_option maxHeartbeats 2000000 in
theorem met_L_path {l : Launch} {D : va_G} {t : Nat → ClassId} {hB oA : Nat} {fs : List Value} {wc ws0 wr : va_W} (hp : ws0.Perm (wc ++ wr)) {x1 x2 : Int} {S : Type} {W1 : S → va_W} {post : Int → S → Prop} {PX : va_W → Prop} {px : Nat → Prop} (f0 : Nat → Int64) (hM : XI l D t yX4_path wsX4_path rm_X4_path (.ref hB :: [.int (iI x1), .int (iI x2)]) wc W1 post PX px 2 12) (hrc : wc[0]? = some (hB, .inr (4, fs))) (hpx : ∀ j, px j → j = 0) : MWi l D t yL_path wsL_path rm_L_path [.ref hB, .int (iI x1), .int (iI x2), .ref oA] (ws0 ++ [aJ t oA 1 f0]) (W1_wr t oA) (po_wr W1 post PX px wr cd1 vl) 2 12 := by
  refine M_ofw (cc := cL_path) (nL := 5) (hh := [(0, 10, 13, 13)]) (by decide) rfl (Nat.le_of_ble_eq_true rfl) ?_
  intro p e s m args below meth c A hc hG hT hr
  refine V_lv [0, 1, 2, 3] [(0, .ref hB), (1, .int (iI x1)), (2, .int (iI x2)), (3, .ref oA)] rfl ?_
  refine V_aload_n hc dL_path_0 3 rfl ?_
  refine V_iconst hc dL_path_1 ?_
  refine V_aload_n hc dL_path_2 0 rfl ?_
  refine V_iload_n hc dL_path_3 1 rfl ?_
  refine V_iload_n hc dL_path_4 2 rfl ?_
  refine V_tryVI (As := [.int (iI x1), .int (iI x2)]) (wc := wc) (wr := wr ++ [aJ t oA 1 f0]) hc (wpA _ hp) hrc rfl hM rfl gL_path_X4_path rfl ⟨rfl, rfl⟩ ok_X4_path (by decide) (Nat.le_of_ble_eq_true rfl) dL_path_5 ⟨Nat.le_of_ble_eq_true rfl, Nat.le_of_ble_eq_true rfl⟩ (fun j q9 W9 hj hW9 => ?_) (fun r u hpo => ?_)
  · obtain rfl := hpx j hj
    refine ⟨[], (⟨0, 10, 13, 13⟩ : ExceptionTableEntry), [], "java/lang/IllegalArgumentException", hT, fun z hz => absurd hz List.not_mem_nil, by decide, by decide, m_L_path_c13, by decide, ?_⟩
    refine V_astore hc dL_path_13 [(4, .ref q9), (0, .ref hB), (1, .int (iI x1)), (2, .int (iI x2)), (3, .ref oA)] (by decide) rfl ?_
    refine V_iconst hc dL_path_15 ?_
    exact V_iret hc hr (W9 ++ wr, f0) (Or.inr ⟨0, W9, hj, rfl, hW9, rfl⟩) (List.append_assoc _ _ _).symm dL_path_16
  · refine V_pm (ws1 := [aJ t oA 1 f0] ++ (W1 u ++ wr)) (wpB _ _ _) ?_
    refine V_i2l hc dL_path_8 ?_
    refine V_last hc 0 rfl dL_path_9 ([aJ t oA 1 (fun _ => vl r)] ++ (W1 u ++ wr)) rfl ?_
    refine V_goto (tgt := 17) hc dL_path_10 (by decide) ?_
    refine V_iconst hc dL_path_17 ?_
    refine V_pm (ws1 := (W1 u ++ wr) ++ [aJ t oA 1 (fun _ => vl r)]) List.perm_append_comm ?_
    exact V_iret hc hr (W1 u ++ wr, fun _ => vl r) (Or.inl ⟨rfl, r, u, hpo, rfl, rfl⟩) rfl dL_path_18
theorem m_L_tree_c13 : Cond.classLink RL 13 "java/lang/IllegalArgumentException" ∈ wsL_tree := by decide +kernel
abbrev rm_L_tree : Room := { frames := 8, cells := 1, slots := 6, locals := 126 }
theorem ok_L_tree : yL_tree.cls ≠ "java/lang/invoke/MethodHandle" ∧ yL_tree.cls ≠ "java/lang/invoke/VarHandle" ∧ (parseMethodDescriptor yL_tree.desc).map (fun d => d.parameters.length) = some 4 := by decide +kernel
set_option maxHeartbeats 2000000 in
theorem met_L_tree {l : Launch} {D : va_G} {t : Nat → ClassId} {hB oA : Nat} {fs : List Value} {wc ws0 wr : va_W} (hp : ws0.Perm (wc ++ wr)) {x1 x2 : Int} {S : Type} {W1 : S → va_W} {post : Int → S → Prop} {PX : va_W → Prop} {px : Nat → Prop} (f0 : Nat → Int64) (hM : XI l D t yX4_tree wsX4_tree rm_X4_tree (.ref hB :: [.int (iI x1), .int (iI x2)]) wc W1 post PX px 1 6) (hrc : wc[0]? = some (hB, .inr (4, fs))) (hpx : ∀ j, px j → j = 0) : MWi l D t yL_tree wsL_tree rm_L_tree [.ref hB, .int (iI x1), .int (iI x2), .ref oA] (ws0 ++ [aJ t oA 1 f0]) (W1_wr t oA) (po_wr W1 post PX px wr cd1 vl) 1 6 := by
  refine M_ofw (cc := cL_tree) (nL := 5) (hh := [(0, 10, 13, 13)]) (by decide) rfl (Nat.le_of_ble_eq_true rfl) ?_
  intro p e s m args below meth c A hc hG hT hr
  refine V_lv [0, 1, 2, 3] [(0, .ref hB), (1, .int (iI x1)), (2, .int (iI x2)), (3, .ref oA)] rfl ?_
  refine V_aload_n hc dL_tree_0 3 rfl ?_
  refine V_iconst hc dL_tree_1 ?_
  refine V_aload_n hc dL_tree_2 0 rfl ?_
  refine V_iload_n hc dL_tree_3 1 rfl ?_
  refine V_iload_n hc dL_tree_4 2 rfl ?_
  refine V_tryVI (As := [.int (iI x1), .int (iI x2)]) (wc := wc) (wr := wr ++ [aJ t oA 1 f0]) hc (wpA _ hp) hrc rfl hM rfl gL_tree_X4_tree rfl ⟨rfl, rfl⟩ ok_X4_tree (by decide) (Nat.le_of_ble_eq_true rfl) dL_tree_5 ⟨Nat.le_of_ble_eq_true rfl, Nat.le_of_ble_eq_true rfl⟩ (fun j q9 W9 hj hW9 => ?_) (fun r u hpo => ?_)
  · obtain rfl := hpx j hj
    refine ⟨[], (⟨0, 10, 13, 13⟩ : ExceptionTableEntry), [], "java/lang/IllegalArgumentException", hT, fun z hz => absurd hz List.not_mem_nil, by decide, by decide, m_L_tree_c13, by decide, ?_⟩
    refine V_astore hc dL_tree_13 [(4, .ref q9), (0, .ref hB), (1, .int (iI x1)), (2, .int (iI x2)), (3, .ref oA)] (by decide) rfl ?_
    refine V_iconst hc dL_tree_15 ?_
    exact V_iret hc hr (W9 ++ wr, f0) (Or.inr ⟨0, W9, hj, rfl, hW9, rfl⟩) (List.append_assoc _ _ _).symm dL_tree_16
  · refine V_pm (ws1 := [aJ t oA 1 f0] ++ (W1 u ++ wr)) (wpB _ _ _) ?_
    refine V_i2l hc dL_tree_8 ?_
    refine V_last hc 0 rfl dL_tree_9 ([aJ t oA 1 (fun _ => vl r)] ++ (W1 u ++ wr)) rfl ?_
    refine V_goto (tgt := 17) hc dL_tree_10 (by decide) ?_
    refine V_iconst hc dL_tree_17 ?_
    refine V_pm (ws1 := (W1 u ++ wr) ++ [aJ t oA 1 (fun _ => vl r)]) List.perm_append_comm ?_
    exact V_iret hc hr (W1 u ++ wr, fun _ => vl r) (Or.inl ⟨rfl, r, u, hpo, rfl, rfl⟩) rfl dL_tree_18
theorem m_L_rebuild_c13 : Cond.classLink RL 13 "java/lang/IllegalArgumentException" ∈ wsL_rebuild := by decide +kernel
abbrev rm_L_rebuild : Room := { frames := 8, cells := 1, slots := 6, locals := 125 }
theorem ok_L_rebuild : yL_rebuild.cls ≠ "java/lang/invoke/MethodHandle" ∧ yL_rebuild.cls ≠ "java/lang/invoke/VarHandle" ∧ (parseMethodDescriptor yL_rebuild.desc).map (fun d => d.parameters.length) = some 3 := by decide +kernel
set_option maxHeartbeats 2000000 in
theorem met_L_rebuild {l : Launch} {D : va_G} {t : Nat → ClassId} {hB oA : Nat} {fs : List Value} {wc ws0 wr : va_W} (hp : ws0.Perm (wc ++ wr)) {x1 : Int} {S : Type} {W1 : S → va_W} {post : Int → S → Prop} {PX : va_W → Prop} {px : Nat → Prop} (f0 : Nat → Int64) (hM : XI l D t yX4_rebuild wsX4_rebuild rm_X4_rebuild (.ref hB :: [.int (iI x1)]) wc W1 post PX px 1 6) (hrc : wc[0]? = some (hB, .inr (4, fs))) (hpx : ∀ j, px j → j = 0) : MWi l D t yL_rebuild wsL_rebuild rm_L_rebuild [.ref hB, .int (iI x1), .ref oA] (ws0 ++ [aJ t oA 1 f0]) (W1_wr t oA) (po_wr W1 post PX px wr cd1 vl) 1 6 := by
  refine M_ofw (cc := cL_rebuild) (nL := 4) (hh := [(0, 9, 12, 13)]) (by decide) rfl (Nat.le_of_ble_eq_true rfl) ?_
  intro p e s m args below meth c A hc hG hT hr
  refine V_lv [0, 1, 2] [(0, .ref hB), (1, .int (iI x1)), (2, .ref oA)] rfl ?_
  refine V_aload_n hc dL_rebuild_0 2 rfl ?_
  refine V_iconst hc dL_rebuild_1 ?_
  refine V_aload_n hc dL_rebuild_2 0 rfl ?_
  refine V_iload_n hc dL_rebuild_3 1 rfl ?_
  refine V_tryVI (As := [.int (iI x1)]) (wc := wc) (wr := wr ++ [aJ t oA 1 f0]) hc (wpA _ hp) hrc rfl hM rfl gL_rebuild_X4_rebuild rfl ⟨rfl, rfl⟩ ok_X4_rebuild (by decide) (Nat.le_of_ble_eq_true rfl) dL_rebuild_4 ⟨Nat.le_of_ble_eq_true rfl, Nat.le_of_ble_eq_true rfl⟩ (fun j q9 W9 hj hW9 => ?_) (fun r u hpo => ?_)
  · obtain rfl := hpx j hj
    refine ⟨[], (⟨0, 9, 12, 13⟩ : ExceptionTableEntry), [], "java/lang/IllegalArgumentException", hT, fun z hz => absurd hz List.not_mem_nil, by decide, by decide, m_L_rebuild_c13, by decide, ?_⟩
    refine V_astore_n hc dL_rebuild_12 [(3, .ref q9), (0, .ref hB), (1, .int (iI x1)), (2, .ref oA)] (by decide) rfl ?_
    refine V_iconst hc dL_rebuild_13 ?_
    exact V_iret hc hr (W9 ++ wr, f0) (Or.inr ⟨0, W9, hj, rfl, hW9, rfl⟩) (List.append_assoc _ _ _).symm dL_rebuild_14
  · refine V_pm (ws1 := [aJ t oA 1 f0] ++ (W1 u ++ wr)) (wpB _ _ _) ?_
    refine V_i2l hc dL_rebuild_7 ?_
    refine V_last hc 0 rfl dL_rebuild_8 ([aJ t oA 1 (fun _ => vl r)] ++ (W1 u ++ wr)) rfl ?_
    refine V_goto (tgt := 15) hc dL_rebuild_9 (by decide) ?_
    refine V_iconst hc dL_rebuild_15 ?_
    refine V_pm (ws1 := (W1 u ++ wr) ++ [aJ t oA 1 (fun _ => vl r)]) List.perm_append_comm ?_
    exact V_iret hc hr (W1 u ++ wr, fun _ => vl r) (Or.inl ⟨rfl, r, u, hpo, rfl, rfl⟩) rfl dL_rebuild_16
theorem m_L_queued_c13 : Cond.classLink RL 13 "java/lang/IllegalArgumentException" ∈ wsL_queued := by decide +kernel
abbrev rm_L_queued : Room := { frames := 7, cells := 1, slots := 6, locals := 103 }
theorem ok_L_queued : yL_queued.cls ≠ "java/lang/invoke/MethodHandle" ∧ yL_queued.cls ≠ "java/lang/invoke/VarHandle" ∧ (parseMethodDescriptor yL_queued.desc).map (fun d => d.parameters.length) = some 3 := by decide +kernel
set_option maxHeartbeats 2000000 in
theorem met_L_queued {l : Launch} {D : va_G} {t : Nat → ClassId} {hB oA : Nat} {fs : List Value} {wc ws0 wr : va_W} (hp : ws0.Perm (wc ++ wr)) {x1 : Int} {S : Type} {W1 : S → va_W} {post : Int → S → Prop} {PX : va_W → Prop} {px : Nat → Prop} (f0 : Nat → Int64) (hM : XI l D t yX4_queued wsX4_queued rm_X4_queued (.ref hB :: [.int (iI x1)]) wc W1 post PX px 1 6) (hrc : wc[0]? = some (hB, .inr (4, fs))) (hpx : ∀ j, px j → j = 0) : MWi l D t yL_queued wsL_queued rm_L_queued [.ref hB, .int (iI x1), .ref oA] (ws0 ++ [aJ t oA 1 f0]) (W1_wr t oA) (po_wr W1 post PX px wr cd1 vl) 1 6 := by
  refine M_ofw (cc := cL_queued) (nL := 4) (hh := [(0, 9, 12, 13)]) (by decide) rfl (Nat.le_of_ble_eq_true rfl) ?_
  intro p e s m args below meth c A hc hG hT hr
  refine V_lv [0, 1, 2] [(0, .ref hB), (1, .int (iI x1)), (2, .ref oA)] rfl ?_
  refine V_aload_n hc dL_queued_0 2 rfl ?_
  refine V_iconst hc dL_queued_1 ?_
  refine V_aload_n hc dL_queued_2 0 rfl ?_
  refine V_iload_n hc dL_queued_3 1 rfl ?_
  refine V_tryVI (As := [.int (iI x1)]) (wc := wc) (wr := wr ++ [aJ t oA 1 f0]) hc (wpA _ hp) hrc rfl hM rfl gL_queued_X4_queued rfl ⟨rfl, rfl⟩ ok_X4_queued (by decide) (Nat.le_of_ble_eq_true rfl) dL_queued_4 ⟨Nat.le_of_ble_eq_true rfl, Nat.le_of_ble_eq_true rfl⟩ (fun j q9 W9 hj hW9 => ?_) (fun r u hpo => ?_)
  · obtain rfl := hpx j hj
    refine ⟨[], (⟨0, 9, 12, 13⟩ : ExceptionTableEntry), [], "java/lang/IllegalArgumentException", hT, fun z hz => absurd hz List.not_mem_nil, by decide, by decide, m_L_queued_c13, by decide, ?_⟩
    refine V_astore_n hc dL_queued_12 [(3, .ref q9), (0, .ref hB), (1, .int (iI x1)), (2, .ref oA)] (by decide) rfl ?_
    refine V_iconst hc dL_queued_13 ?_
    exact V_iret hc hr (W9 ++ wr, f0) (Or.inr ⟨0, W9, hj, rfl, hW9, rfl⟩) (List.append_assoc _ _ _).symm dL_queued_14
  · refine V_pm (ws1 := [aJ t oA 1 f0] ++ (W1 u ++ wr)) (wpB _ _ _) ?_
    refine V_i2l hc dL_queued_7 ?_
    refine V_last hc 0 rfl dL_queued_8 ([aJ t oA 1 (fun _ => vl r)] ++ (W1 u ++ wr)) rfl ?_
    refine V_goto (tgt := 15) hc dL_queued_9 (by decide) ?_
    refine V_iconst hc dL_queued_15 ?_
    refine V_pm (ws1 := (W1 u ++ wr) ++ [aJ t oA 1 (fun _ => vl r)]) List.perm_append_comm ?_
    exact V_iret hc hr (W1 u ++ wr, fun _ => vl r) (Or.inl ⟨rfl, r, u, hpo, rfl, rfl⟩) rfl dL_queued_16
theorem m_L_count_c13 : Cond.classLink RL 13 "java/lang/IllegalArgumentException" ∈ wsL_count := by decide +kernel
abbrev rm_L_count : Room := { frames := 8, cells := 1, slots := 6, locals := 124 }
theorem ok_L_count : yL_count.cls ≠ "java/lang/invoke/MethodHandle" ∧ yL_count.cls ≠ "java/lang/invoke/VarHandle" ∧ (parseMethodDescriptor yL_count.desc).map (fun d => d.parameters.length) = some 3 := by decide +kernel
set_option maxHeartbeats 2000000 in
theorem met_L_count {l : Launch} {D : va_G} {t : Nat → ClassId} {hB oA : Nat} {fs : List Value} {wc ws0 wr : va_W} (hp : ws0.Perm (wc ++ wr)) {x1 : Int} {S : Type} {W1 : S → va_W} {post : Int → S → Prop} {PX : va_W → Prop} {px : Nat → Prop} (f0 : Nat → Int64) (hM : XI l D t yX4_count wsX4_count rm_X4_count (.ref hB :: [.int (iI x1)]) wc W1 post PX px 1 6) (hrc : wc[0]? = some (hB, .inr (4, fs))) (hpx : ∀ j, px j → j = 0) : MWi l D t yL_count wsL_count rm_L_count [.ref hB, .int (iI x1), .ref oA] (ws0 ++ [aJ t oA 1 f0]) (W1_wr t oA) (po_wr W1 post PX px wr cd1 vl) 1 6 := by
  refine M_ofw (cc := cL_count) (nL := 4) (hh := [(0, 9, 12, 13)]) (by decide) rfl (Nat.le_of_ble_eq_true rfl) ?_
  intro p e s m args below meth c A hc hG hT hr
  refine V_lv [0, 1, 2] [(0, .ref hB), (1, .int (iI x1)), (2, .ref oA)] rfl ?_
  refine V_aload_n hc dL_count_0 2 rfl ?_
  refine V_iconst hc dL_count_1 ?_
  refine V_aload_n hc dL_count_2 0 rfl ?_
  refine V_iload_n hc dL_count_3 1 rfl ?_
  refine V_tryVI (As := [.int (iI x1)]) (wc := wc) (wr := wr ++ [aJ t oA 1 f0]) hc (wpA _ hp) hrc rfl hM rfl gL_count_X4_count rfl ⟨rfl, rfl⟩ ok_X4_count (by decide) (Nat.le_of_ble_eq_true rfl) dL_count_4 ⟨Nat.le_of_ble_eq_true rfl, Nat.le_of_ble_eq_true rfl⟩ (fun j q9 W9 hj hW9 => ?_) (fun r u hpo => ?_)
  · obtain rfl := hpx j hj
    refine ⟨[], (⟨0, 9, 12, 13⟩ : ExceptionTableEntry), [], "java/lang/IllegalArgumentException", hT, fun z hz => absurd hz List.not_mem_nil, by decide, by decide, m_L_count_c13, by decide, ?_⟩
    refine V_astore_n hc dL_count_12 [(3, .ref q9), (0, .ref hB), (1, .int (iI x1)), (2, .ref oA)] (by decide) rfl ?_
    refine V_iconst hc dL_count_13 ?_
    exact V_iret hc hr (W9 ++ wr, f0) (Or.inr ⟨0, W9, hj, rfl, hW9, rfl⟩) (List.append_assoc _ _ _).symm dL_count_14
  · refine V_pm (ws1 := [aJ t oA 1 f0] ++ (W1 u ++ wr)) (wpB _ _ _) ?_
    refine V_i2l hc dL_count_7 ?_
    refine V_last hc 0 rfl dL_count_8 ([aJ t oA 1 (fun _ => vl r)] ++ (W1 u ++ wr)) rfl ?_
    refine V_goto (tgt := 15) hc dL_count_9 (by decide) ?_
    refine V_iconst hc dL_count_15 ?_
    refine V_pm (ws1 := (W1 u ++ wr) ++ [aJ t oA 1 (fun _ => vl r)]) List.perm_append_comm ?_
    exact V_iret hc hr (W1 u ++ wr, fun _ => vl r) (Or.inl ⟨rfl, r, u, hpo, rfl, rfl⟩) rfl dL_count_16
theorem m_L_setting_c31 : Cond.classLink RL 31 "java/lang/IndexOutOfBoundsException" ∈ wsL_setting := by decide +kernel
abbrev rm_L_setting : Room := { frames := 8, cells := 1, slots := 6, locals := 123 }
theorem ok_L_setting : yL_setting.cls ≠ "java/lang/invoke/MethodHandle" ∧ yL_setting.cls ≠ "java/lang/invoke/VarHandle" ∧ (parseMethodDescriptor yL_setting.desc).map (fun d => d.parameters.length) = some 3 := by decide +kernel
set_option maxHeartbeats 2000000 in
theorem met_L_setting {l : Launch} {D : va_G} {t : Nat → ClassId} {hB oA : Nat} {fs : List Value} {wc ws0 wr : va_W} (hp : ws0.Perm (wc ++ wr)) {x1 : Int} {S : Type} {W1 : S → va_W} {post : Int → S → Prop} {PX : va_W → Prop} {px : Nat → Prop} (f0 : Nat → Int64) (hM : XI l D t yX4_setting wsX4_setting rm_X4_setting (.ref hB :: [.int (iI x1)]) wc W1 post PX px 1 6) (hrc : wc[0]? = some (hB, .inr (4, fs))) (hpx : ∀ j, px j → j = 2) : MWi l D t yL_setting wsL_setting rm_L_setting [.ref hB, .int (iI x1), .ref oA] (ws0 ++ [aJ t oA 1 f0]) (W1_wr t oA) (po_wr W1 post PX px wr cd1 vl) 1 6 := by
  refine M_ofw (cc := cL_setting) (nL := 4) (hh := [(0, 9, 12, 31)]) (by decide) rfl (Nat.le_of_ble_eq_true rfl) ?_
  intro p e s m args below meth c A hc hG hT hr
  refine V_lv [0, 1, 2] [(0, .ref hB), (1, .int (iI x1)), (2, .ref oA)] rfl ?_
  refine V_aload_n hc dL_setting_0 2 rfl ?_
  refine V_iconst hc dL_setting_1 ?_
  refine V_aload_n hc dL_setting_2 0 rfl ?_
  refine V_iload_n hc dL_setting_3 1 rfl ?_
  refine V_tryVI (As := [.int (iI x1)]) (wc := wc) (wr := wr ++ [aJ t oA 1 f0]) hc (wpA _ hp) hrc rfl hM rfl gL_setting_X4_setting rfl ⟨rfl, rfl⟩ ok_X4_setting (by decide) (Nat.le_of_ble_eq_true rfl) dL_setting_4 ⟨Nat.le_of_ble_eq_true rfl, Nat.le_of_ble_eq_true rfl⟩ (fun j q9 W9 hj hW9 => ?_) (fun r u hpo => ?_)
  · obtain rfl := hpx j hj
    refine ⟨[], (⟨0, 9, 12, 31⟩ : ExceptionTableEntry), [], "java/lang/IndexOutOfBoundsException", hT, fun z hz => absurd hz List.not_mem_nil, by decide, by decide, m_L_setting_c31, by decide, ?_⟩
    refine V_astore_n hc dL_setting_12 [(3, .ref q9), (0, .ref hB), (1, .int (iI x1)), (2, .ref oA)] (by decide) rfl ?_
    refine V_iconst hc dL_setting_13 ?_
    exact V_iret hc hr (W9 ++ wr, f0) (Or.inr ⟨2, W9, hj, rfl, hW9, rfl⟩) (List.append_assoc _ _ _).symm dL_setting_14
  · refine V_pm (ws1 := [aJ t oA 1 f0] ++ (W1 u ++ wr)) (wpB _ _ _) ?_
    refine V_i2l hc dL_setting_7 ?_
    refine V_last hc 0 rfl dL_setting_8 ([aJ t oA 1 (fun _ => vl r)] ++ (W1 u ++ wr)) rfl ?_
    refine V_goto (tgt := 15) hc dL_setting_9 (by decide) ?_
    refine V_iconst hc dL_setting_15 ?_
    refine V_pm (ws1 := (W1 u ++ wr) ++ [aJ t oA 1 (fun _ => vl r)]) List.perm_append_comm ?_
    exact V_iret hc hr (W1 u ++ wr, fun _ => vl r) (Or.inl ⟨rfl, r, u, hpo, rfl, rfl⟩) rfl dL_setting_16
theorem m_L_untilExchange_c13 : Cond.classLink RL 13 "java/lang/IllegalArgumentException" ∈ wsL_untilExchange := by decide +kernel
abbrev rm_L_untilExchange : Room := { frames := 8, cells := 1, slots := 6, locals := 123 }
theorem ok_L_untilExchange : yL_untilExchange.cls ≠ "java/lang/invoke/MethodHandle" ∧ yL_untilExchange.cls ≠ "java/lang/invoke/VarHandle" ∧ (parseMethodDescriptor yL_untilExchange.desc).map (fun d => d.parameters.length) = some 3 := by decide +kernel
set_option maxHeartbeats 2000000 in
theorem met_L_untilExchange {l : Launch} {D : va_G} {t : Nat → ClassId} {hB oA : Nat} {fs : List Value} {wc ws0 wr : va_W} (hp : ws0.Perm (wc ++ wr)) {x1 : Int} {S : Type} {W1 : S → va_W} {post : Int → S → Prop} {PX : va_W → Prop} {px : Nat → Prop} (f0 : Nat → Int64) (hM : XI l D t yX4_untilExchange wsX4_untilExchange rm_X4_untilExchange (.ref hB :: [.int (iI x1)]) wc W1 post PX px 1 6) (hrc : wc[0]? = some (hB, .inr (4, fs))) (hpx : ∀ j, px j → j = 0) : MWi l D t yL_untilExchange wsL_untilExchange rm_L_untilExchange [.ref hB, .int (iI x1), .ref oA] (ws0 ++ [aJ t oA 1 f0]) (W1_wr t oA) (po_wr W1 post PX px wr cd1 vl) 1 6 := by
  refine M_ofw (cc := cL_untilExchange) (nL := 4) (hh := [(0, 9, 12, 13)]) (by decide) rfl (Nat.le_of_ble_eq_true rfl) ?_
  intro p e s m args below meth c A hc hG hT hr
  refine V_lv [0, 1, 2] [(0, .ref hB), (1, .int (iI x1)), (2, .ref oA)] rfl ?_
  refine V_aload_n hc dL_untilExchange_0 2 rfl ?_
  refine V_iconst hc dL_untilExchange_1 ?_
  refine V_aload_n hc dL_untilExchange_2 0 rfl ?_
  refine V_iload_n hc dL_untilExchange_3 1 rfl ?_
  refine V_tryVI (As := [.int (iI x1)]) (wc := wc) (wr := wr ++ [aJ t oA 1 f0]) hc (wpA _ hp) hrc rfl hM rfl gL_untilExchange_X4_untilExchange rfl ⟨rfl, rfl⟩ ok_X4_untilExchange (by decide) (Nat.le_of_ble_eq_true rfl) dL_untilExchange_4 ⟨Nat.le_of_ble_eq_true rfl, Nat.le_of_ble_eq_true rfl⟩ (fun j q9 W9 hj hW9 => ?_) (fun r u hpo => ?_)
  · obtain rfl := hpx j hj
    refine ⟨[], (⟨0, 9, 12, 13⟩ : ExceptionTableEntry), [], "java/lang/IllegalArgumentException", hT, fun z hz => absurd hz List.not_mem_nil, by decide, by decide, m_L_untilExchange_c13, by decide, ?_⟩
    refine V_astore_n hc dL_untilExchange_12 [(3, .ref q9), (0, .ref hB), (1, .int (iI x1)), (2, .ref oA)] (by decide) rfl ?_
    refine V_iconst hc dL_untilExchange_13 ?_
    exact V_iret hc hr (W9 ++ wr, f0) (Or.inr ⟨0, W9, hj, rfl, hW9, rfl⟩) (List.append_assoc _ _ _).symm dL_untilExchange_14
  · refine V_pm (ws1 := [aJ t oA 1 f0] ++ (W1 u ++ wr)) (wpB _ _ _) ?_
    refine V_i2l hc dL_untilExchange_7 ?_
    refine V_last hc 0 rfl dL_untilExchange_8 ([aJ t oA 1 (fun _ => vl r)] ++ (W1 u ++ wr)) rfl ?_
    refine V_goto (tgt := 15) hc dL_untilExchange_9 (by decide) ?_
    refine V_iconst hc dL_untilExchange_15 ?_
    refine V_pm (ws1 := (W1 u ++ wr) ++ [aJ t oA 1 (fun _ => vl r)]) List.perm_append_comm ?_
    exact V_iret hc hr (W1 u ++ wr, fun _ => vl r) (Or.inl ⟨rfl, r, u, hpo, rfl, rfl⟩) rfl dL_untilExchange_16
theorem m_L_longest_c13 : Cond.classLink RL 13 "java/lang/IllegalArgumentException" ∈ wsL_longest := by decide +kernel
abbrev rm_L_longest : Room := { frames := 8, cells := 1, slots := 6, locals := 157 }
theorem ok_L_longest : yL_longest.cls ≠ "java/lang/invoke/MethodHandle" ∧ yL_longest.cls ≠ "java/lang/invoke/VarHandle" ∧ (parseMethodDescriptor yL_longest.desc).map (fun d => d.parameters.length) = some 3 := by decide +kernel
set_option maxHeartbeats 2000000 in
theorem met_L_longest {l : Launch} {D : va_G} {t : Nat → ClassId} {hB oA : Nat} {fs : List Value} {wc ws0 wr : va_W} (hp : ws0.Perm (wc ++ wr)) {x1 : Int} {S : Type} {W1 : S → va_W} {post : Int → S → Prop} {PX : va_W → Prop} {px : Nat → Prop} (f0 : Nat → Int64) (hM : XI l D t yX4_longest wsX4_longest rm_X4_longest (.ref hB :: [.int (iI x1)]) wc W1 post PX px 1 6) (hrc : wc[0]? = some (hB, .inr (4, fs))) (hpx : ∀ j, px j → j = 0) : MWi l D t yL_longest wsL_longest rm_L_longest [.ref hB, .int (iI x1), .ref oA] (ws0 ++ [aJ t oA 1 f0]) (W1_wr t oA) (po_wr W1 post PX px wr cd1 vl) 1 6 := by
  refine M_ofw (cc := cL_longest) (nL := 4) (hh := [(0, 9, 12, 13)]) (by decide) rfl (Nat.le_of_ble_eq_true rfl) ?_
  intro p e s m args below meth c A hc hG hT hr
  refine V_lv [0, 1, 2] [(0, .ref hB), (1, .int (iI x1)), (2, .ref oA)] rfl ?_
  refine V_aload_n hc dL_longest_0 2 rfl ?_
  refine V_iconst hc dL_longest_1 ?_
  refine V_aload_n hc dL_longest_2 0 rfl ?_
  refine V_iload_n hc dL_longest_3 1 rfl ?_
  refine V_tryVI (As := [.int (iI x1)]) (wc := wc) (wr := wr ++ [aJ t oA 1 f0]) hc (wpA _ hp) hrc rfl hM rfl gL_longest_X4_longest rfl ⟨rfl, rfl⟩ ok_X4_longest (by decide) (Nat.le_of_ble_eq_true rfl) dL_longest_4 ⟨Nat.le_of_ble_eq_true rfl, Nat.le_of_ble_eq_true rfl⟩ (fun j q9 W9 hj hW9 => ?_) (fun r u hpo => ?_)
  · obtain rfl := hpx j hj
    refine ⟨[], (⟨0, 9, 12, 13⟩ : ExceptionTableEntry), [], "java/lang/IllegalArgumentException", hT, fun z hz => absurd hz List.not_mem_nil, by decide, by decide, m_L_longest_c13, by decide, ?_⟩
    refine V_astore_n hc dL_longest_12 [(3, .ref q9), (0, .ref hB), (1, .int (iI x1)), (2, .ref oA)] (by decide) rfl ?_
    refine V_iconst hc dL_longest_13 ?_
    exact V_iret hc hr (W9 ++ wr, f0) (Or.inr ⟨0, W9, hj, rfl, hW9, rfl⟩) (List.append_assoc _ _ _).symm dL_longest_14
  · refine V_pm (ws1 := [aJ t oA 1 f0] ++ (W1 u ++ wr)) (wpB _ _ _) ?_
    refine V_i2l hc dL_longest_7 ?_
    refine V_last hc 0 rfl dL_longest_8 ([aJ t oA 1 (fun _ => vl r)] ++ (W1 u ++ wr)) rfl ?_
    refine V_goto (tgt := 15) hc dL_longest_9 (by decide) ?_
    refine V_iconst hc dL_longest_15 ?_
    refine V_pm (ws1 := (W1 u ++ wr) ++ [aJ t oA 1 (fun _ => vl r)]) List.perm_append_comm ?_
    exact V_iret hc hr (W1 u ++ wr, fun _ => vl r) (Or.inl ⟨rfl, r, u, hpo, rfl, rfl⟩) rfl dL_longest_16
theorem m_L_leastSpeed_c13 : Cond.classLink RL 13 "java/lang/IllegalArgumentException" ∈ wsL_leastSpeed := by decide +kernel
abbrev rm_L_leastSpeed : Room := { frames := 7, cells := 1, slots := 6, locals := 104 }
theorem ok_L_leastSpeed : yL_leastSpeed.cls ≠ "java/lang/invoke/MethodHandle" ∧ yL_leastSpeed.cls ≠ "java/lang/invoke/VarHandle" ∧ (parseMethodDescriptor yL_leastSpeed.desc).map (fun d => d.parameters.length) = some 3 := by decide +kernel
set_option maxHeartbeats 2000000 in
theorem met_L_leastSpeed {l : Launch} {D : va_G} {t : Nat → ClassId} {hB oA : Nat} {fs : List Value} {wc ws0 wr : va_W} (hp : ws0.Perm (wc ++ wr)) {x1 : Int} {S : Type} {W1 : S → va_W} {post : Int → S → Prop} {PX : va_W → Prop} {px : Nat → Prop} (f0 : Nat → Int64) (hM : XI l D t yX4_leastSpeed wsX4_leastSpeed rm_X4_leastSpeed (.ref hB :: [.int (iI x1)]) wc W1 post PX px 1 6) (hrc : wc[0]? = some (hB, .inr (4, fs))) (hpx : ∀ j, px j → j = 0) : MWi l D t yL_leastSpeed wsL_leastSpeed rm_L_leastSpeed [.ref hB, .int (iI x1), .ref oA] (ws0 ++ [aJ t oA 1 f0]) (W1_wr t oA) (po_wr W1 post PX px wr cd1 vl) 1 6 := by
  refine M_ofw (cc := cL_leastSpeed) (nL := 4) (hh := [(0, 9, 12, 13)]) (by decide) rfl (Nat.le_of_ble_eq_true rfl) ?_
  intro p e s m args below meth c A hc hG hT hr
  refine V_lv [0, 1, 2] [(0, .ref hB), (1, .int (iI x1)), (2, .ref oA)] rfl ?_
  refine V_aload_n hc dL_leastSpeed_0 2 rfl ?_
  refine V_iconst hc dL_leastSpeed_1 ?_
  refine V_aload_n hc dL_leastSpeed_2 0 rfl ?_
  refine V_iload_n hc dL_leastSpeed_3 1 rfl ?_
  refine V_tryVI (As := [.int (iI x1)]) (wc := wc) (wr := wr ++ [aJ t oA 1 f0]) hc (wpA _ hp) hrc rfl hM rfl gL_leastSpeed_X4_leastSpeed rfl ⟨rfl, rfl⟩ ok_X4_leastSpeed (by decide) (Nat.le_of_ble_eq_true rfl) dL_leastSpeed_4 ⟨Nat.le_of_ble_eq_true rfl, Nat.le_of_ble_eq_true rfl⟩ (fun j q9 W9 hj hW9 => ?_) (fun r u hpo => ?_)
  · obtain rfl := hpx j hj
    refine ⟨[], (⟨0, 9, 12, 13⟩ : ExceptionTableEntry), [], "java/lang/IllegalArgumentException", hT, fun z hz => absurd hz List.not_mem_nil, by decide, by decide, m_L_leastSpeed_c13, by decide, ?_⟩
    refine V_astore_n hc dL_leastSpeed_12 [(3, .ref q9), (0, .ref hB), (1, .int (iI x1)), (2, .ref oA)] (by decide) rfl ?_
    refine V_iconst hc dL_leastSpeed_13 ?_
    exact V_iret hc hr (W9 ++ wr, f0) (Or.inr ⟨0, W9, hj, rfl, hW9, rfl⟩) (List.append_assoc _ _ _).symm dL_leastSpeed_14
  · refine V_pm (ws1 := [aJ t oA 1 f0] ++ (W1 u ++ wr)) (wpB _ _ _) ?_
    refine V_i2l hc dL_leastSpeed_7 ?_
    refine V_last hc 0 rfl dL_leastSpeed_8 ([aJ t oA 1 (fun _ => vl r)] ++ (W1 u ++ wr)) rfl ?_
    refine V_goto (tgt := 15) hc dL_leastSpeed_9 (by decide) ?_
    refine V_iconst hc dL_leastSpeed_15 ?_
    refine V_pm (ws1 := (W1 u ++ wr) ++ [aJ t oA 1 (fun _ => vl r)]) List.perm_append_comm ?_
    exact V_iret hc hr (W1 u ++ wr, fun _ => vl r) (Or.inl ⟨rfl, r, u, hpo, rfl, rfl⟩) rfl dL_leastSpeed_16
