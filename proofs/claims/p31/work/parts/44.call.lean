/-! the law's keyOf, call and ask -/
abbrev rm_L_keyOf : Room := { frames := 0, cells := 0, slots := 0, locals := 0 }
theorem ok_L_keyOf : yL_keyOf.cls ≠ "java/lang/invoke/MethodHandle" ∧ yL_keyOf.cls ≠ "java/lang/invoke/VarHandle" ∧ (parseMethodDescriptor yL_keyOf.desc).map (fun d => d.parameters.length) = some 1 := by decide +kernel
theorem ok_L_call : yL_call.cls ≠ "java/lang/invoke/MethodHandle" ∧ yL_call.cls ≠ "java/lang/invoke/VarHandle" ∧ (parseMethodDescriptor yL_call.desc).map (fun d => d.parameters.length) = some 4 := by decide +kernel
theorem ok_L_ask : yL_ask.cls ≠ "java/lang/invoke/MethodHandle" ∧ yL_ask.cls ≠ "java/lang/invoke/VarHandle" ∧ (parseMethodDescriptor yL_ask.desc).map (fun d => d.parameters.length) = some 4 := by decide +kernel
theorem ok_L_cell : yL_cell.cls ≠ "java/lang/invoke/MethodHandle" ∧ yL_cell.cls ≠ "java/lang/invoke/VarHandle" ∧ (parseMethodDescriptor yL_cell.desc).map (fun d => d.parameters.length) = some 2 := by decide +kernel
theorem ok_L_seen : yL_seen.cls ≠ "java/lang/invoke/MethodHandle" ∧ yL_seen.cls ≠ "java/lang/invoke/VarHandle" ∧ (parseMethodDescriptor yL_seen.desc).map (fun d => d.parameters.length) = some 1 := by decide +kernel
theorem ok_L_refusesAny : yL_refusesAny.cls ≠ "java/lang/invoke/MethodHandle" ∧ yL_refusesAny.cls ≠ "java/lang/invoke/VarHandle" ∧ (parseMethodDescriptor yL_refusesAny.desc).map (fun d => d.parameters.length) = some 2 := by decide +kernel
theorem ok_L_refuses : yL_refuses.cls ≠ "java/lang/invoke/MethodHandle" ∧ yL_refuses.cls ≠ "java/lang/invoke/VarHandle" ∧ (parseMethodDescriptor yL_refuses.desc).map (fun d => d.parameters.length) = some 2 := by decide +kernel
theorem ok_L_isFull : yL_isFull.cls ≠ "java/lang/invoke/MethodHandle" ∧ yL_isFull.cls ≠ "java/lang/invoke/VarHandle" ∧ (parseMethodDescriptor yL_isFull.desc).map (fun d => d.parameters.length) = some 2 := by decide +kernel
theorem ok_L_isQueued : yL_isQueued.cls ≠ "java/lang/invoke/MethodHandle" ∧ yL_isQueued.cls ≠ "java/lang/invoke/VarHandle" ∧ (parseMethodDescriptor yL_isQueued.desc).map (fun d => d.parameters.length) = some 1 := by decide +kernel
theorem ok_L_isSorted : yL_isSorted.cls ≠ "java/lang/invoke/MethodHandle" ∧ yL_isSorted.cls ≠ "java/lang/invoke/VarHandle" ∧ (parseMethodDescriptor yL_isSorted.desc).map (fun d => d.parameters.length) = some 1 := by decide +kernel
theorem ok_L_act : yL_act.cls ≠ "java/lang/invoke/MethodHandle" ∧ yL_act.cls ≠ "java/lang/invoke/VarHandle" ∧ (parseMethodDescriptor yL_act.desc).map (fun d => d.parameters.length) = some 2 := by decide +kernel
set_option maxHeartbeats 4000000 in
theorem lm_keyOf {l : Launch} {D : va_G} {t : Nat → ClassId} {x : Int} : MWi l D t yL_keyOf wsL_keyOf rm_L_keyOf [.int (iI x)] [] (fun _ : Unit => []) (fun r _ => r = 4 * x + 1) 0 0 := by
  refine M_ofgi (cc := cL_keyOf) (nL := 1) (by decide) rfl (Nat.le_of_ble_eq_true rfl) ?_
  intro p e s m args below meth c A hc hG hr
  refine V_lv [0] [(0, .int (iI x))] rfl ?_
  refine V_iconst hc dL_keyOf_0 ?_
  refine V_iload_n hc dL_keyOf_1 0 rfl ?_
  refine V_imul hc dL_keyOf_2 ?_
  refine V_iconst hc dL_keyOf_3 ?_
  refine V_iadd hc dL_keyOf_4 ?_
  exact V_iret hc hr () rfl rfl dL_keyOf_5
abbrev rm_L_call : Room := { frames := 8, cells := 2, slots := 12, locals := 200 }
abbrev rm_L_ask : Room := { frames := 8, cells := 2, slots := 12, locals := 157 }
theorem m_L_call_c51 : Cond.classLink RL 51 "java/lang/IndexOutOfBoundsException" ∈ wsL_call := by decide +kernel
theorem m_L_call_c53 : Cond.classLink RL 53 "java/lang/IllegalArgumentException" ∈ wsL_call := by decide +kernel
theorem m_L_call_c55 : Cond.classLink RL 55 "java/lang/IllegalStateException" ∈ wsL_call := by decide +kernel
theorem m_L_ask_c51 : Cond.classLink RL 51 "java/lang/IndexOutOfBoundsException" ∈ wsL_ask := by decide +kernel
theorem m_L_ask_c53 : Cond.classLink RL 53 "java/lang/IllegalArgumentException" ∈ wsL_ask := by decide +kernel
set_option maxHeartbeats 4000000 in
theorem lc_call_0 {l : Launch} (hl0 : l.stackTraces = false) {D : va_G} {t : Nat → ClassId} {hB : Nat} {σ : aW} {ws0 : va_W} (hCW : CW t hB ws0 σ) (hI : ivE σ) {a b : Int} (h2 : inR a) (h3 : inR b) : MWi l D t yL_call wsL_call rm_L_call [.ref hB, .int (iI 0), .int (iI a), .int (iI b)] ws0 idW (po_L t hB (cR (ok_add σ a) (rf_add σ a) xc10 σ)) 2 12 := by
  refine M_ofw (cc := cL_call) (nL := 5) (hh := [(0, 158, 159, 51), (0, 158, 164, 53), (0, 158, 169, 55)]) (by decide) rfl (Nat.le_of_ble_eq_true rfl) ?_
  intro p e s m args below meth c A hc hG hT hr
  refine V_lv [0, 1, 2, 3] [(0, .ref hB), (1, .int (iI 0)), (2, .int (iI a)), (3, .int (iI b))] rfl ?_
  refine V_iload_n hc dL_call_0 1 rfl ?_
  refine V_if_ne (tgt := 12) (X := False) (Y := True) hc dL_call_1 (by decide) ⟨by decide, fun h => absurd h (by decide), fun _ => trivial⟩ (fun h => h.elim) (fun _ => ?_)
  refine V_aload_n hc dL_call_4 0 rfl ?_
  refine V_iload_n hc dL_call_5 2 rfl ?_
  refine V_tc (As := [.int (iI a)]) hc (fc_add hl0 hCW hI h2) rfl gL_call_X4_add rfl ⟨rfl, rfl⟩ ok_X4_add ⟨Nat.le_of_ble_eq_true rfl, Nat.le_of_ble_eq_true rfl⟩ (Nat.le_of_ble_eq_true rfl) dL_call_6 ⟨Nat.le_of_ble_eq_true rfl, Nat.le_of_ble_eq_true rfl⟩ (fun j q9 w1 hj hW1 => ?_) (fun r σ1 w1 hok hW1 => ?_)
  · rcases hj with ⟨rfl | rfl, hj⟩
    · refine ⟨[(⟨0, 158, 159, 51⟩ : ExceptionTableEntry)], (⟨0, 158, 164, 53⟩ : ExceptionTableEntry), [(⟨0, 158, 169, 55⟩ : ExceptionTableEntry)], "java/lang/IllegalArgumentException", hT, List.forall_mem_cons.mpr ⟨⟨by decide, "java/lang/IndexOutOfBoundsException", m_L_call_c51, hG.2.1⟩, fun z hz => absurd hz List.not_mem_nil⟩, by decide, by decide, m_L_call_c53, by decide, ?_⟩
      refine V_astore hc dL_call_164 [(4, .ref q9), (0, .ref hB), (1, .int (iI 0)), (2, .int (iI a)), (3, .int (iI b))] (Nat.le_of_ble_eq_true rfl) rfl ?_
      refine V_bipush hc dL_call_166 (by decide) ?_
      refine V_widen (k1 := 2) (n1 := 12) (Nat.le_of_ble_eq_true rfl) (Nat.le_of_ble_eq_true rfl) ?_
      exact V_iret hc hr w1 ⟨σ, Or.inr ⟨1, hj, rfl, rfl⟩, hW1⟩ rfl dL_call_168
    · refine ⟨[(⟨0, 158, 159, 51⟩ : ExceptionTableEntry), (⟨0, 158, 164, 53⟩ : ExceptionTableEntry)], (⟨0, 158, 169, 55⟩ : ExceptionTableEntry), [], "java/lang/IllegalStateException", hT, List.forall_mem_cons.mpr ⟨⟨by decide, "java/lang/IndexOutOfBoundsException", m_L_call_c51, hG.2.2⟩, List.forall_mem_cons.mpr ⟨⟨by decide, "java/lang/IllegalArgumentException", m_L_call_c53, hG.1⟩, fun z hz => absurd hz List.not_mem_nil⟩⟩, by decide, by decide, m_L_call_c55, by decide, ?_⟩
      refine V_astore hc dL_call_169 [(4, .ref q9), (0, .ref hB), (1, .int (iI 0)), (2, .int (iI a)), (3, .int (iI b))] (Nat.le_of_ble_eq_true rfl) rfl ?_
      refine V_bipush hc dL_call_171 (by decide) ?_
      refine V_widen (k1 := 2) (n1 := 12) (Nat.le_of_ble_eq_true rfl) (Nat.le_of_ble_eq_true rfl) ?_
      exact V_iret hc hr w1 ⟨σ, Or.inr ⟨2, hj, rfl, rfl⟩, hW1⟩ rfl dL_call_173
  · refine V_goto (tgt := 158) hc dL_call_9 (by decide) ?_
    refine V_widen (k1 := 2) (n1 := 12) (Nat.le_of_ble_eq_true rfl) (Nat.le_of_ble_eq_true rfl) ?_
    exact V_iret hc hr w1 ⟨σ1, Or.inl hok, hW1⟩ rfl dL_call_158
set_option maxHeartbeats 4000000 in
theorem lc_call_1 {l : Launch} (hl0 : l.stackTraces = false) {D : va_G} {t : Nat → ClassId} {hB : Nat} {σ : aW} {ws0 : va_W} (hCW : CW t hB ws0 σ) (hI : ivE σ) {a b : Int} (h2 : inR a) (h3 : inR b) : MWi l D t yL_call wsL_call rm_L_call [.ref hB, .int (iI 1), .int (iI a), .int (iI b)] ws0 idW (po_L t hB (cR (ok_remove σ a) (rf_remove σ a) xc1 σ)) 2 12 := by
  refine M_ofw (cc := cL_call) (nL := 5) (hh := [(0, 158, 159, 51), (0, 158, 164, 53), (0, 158, 169, 55)]) (by decide) rfl (Nat.le_of_ble_eq_true rfl) ?_
  intro p e s m args below meth c A hc hG hT hr
  refine V_lv [0, 1, 2, 3] [(0, .ref hB), (1, .int (iI 1)), (2, .int (iI a)), (3, .int (iI b))] rfl ?_
  refine V_iload_n hc dL_call_0 1 rfl ?_
  refine V_if_ne (tgt := 12) (X := True) (Y := False) hc dL_call_1 (by decide) ⟨by decide, fun _ => trivial, fun h => h (by decide)⟩ (fun _ => ?_) (fun h => h.elim)
  refine V_iload_n hc dL_call_12 1 rfl ?_
  refine V_iconst hc dL_call_13 ?_
  refine V_icmp_ne (tgt := 25) (X := False) (Y := True) hc dL_call_14 (by decide) ⟨by decide, by decide, fun h => absurd h (by decide), fun _ => trivial⟩ (fun h => h.elim) (fun _ => ?_)
  refine V_aload_n hc dL_call_17 0 rfl ?_
  refine V_iload_n hc dL_call_18 2 rfl ?_
  refine V_tc (As := [.int (iI a)]) hc (fc_remove hl0 hCW hI h2) rfl gL_call_X4_remove rfl ⟨rfl, rfl⟩ ok_X4_remove ⟨Nat.le_of_ble_eq_true rfl, Nat.le_of_ble_eq_true rfl⟩ (Nat.le_of_ble_eq_true rfl) dL_call_19 ⟨Nat.le_of_ble_eq_true rfl, Nat.le_of_ble_eq_true rfl⟩ (fun j q9 w1 hj hW1 => ?_) (fun r σ1 w1 hok hW1 => ?_)
  · obtain ⟨rfl, hj⟩ := hj
    refine ⟨[(⟨0, 158, 159, 51⟩ : ExceptionTableEntry)], (⟨0, 158, 164, 53⟩ : ExceptionTableEntry), [(⟨0, 158, 169, 55⟩ : ExceptionTableEntry)], "java/lang/IllegalArgumentException", hT, List.forall_mem_cons.mpr ⟨⟨by decide, "java/lang/IndexOutOfBoundsException", m_L_call_c51, hG.2.1⟩, fun z hz => absurd hz List.not_mem_nil⟩, by decide, by decide, m_L_call_c53, by decide, ?_⟩
    refine V_astore hc dL_call_164 [(4, .ref q9), (0, .ref hB), (1, .int (iI 1)), (2, .int (iI a)), (3, .int (iI b))] (Nat.le_of_ble_eq_true rfl) rfl ?_
    refine V_bipush hc dL_call_166 (by decide) ?_
    refine V_widen (k1 := 2) (n1 := 12) (Nat.le_of_ble_eq_true rfl) (Nat.le_of_ble_eq_true rfl) ?_
    exact V_iret hc hr w1 ⟨σ, Or.inr ⟨1, hj, rfl, rfl⟩, hW1⟩ rfl dL_call_168
  · refine V_goto (tgt := 158) hc dL_call_22 (by decide) ?_
    refine V_widen (k1 := 2) (n1 := 12) (Nat.le_of_ble_eq_true rfl) (Nat.le_of_ble_eq_true rfl) ?_
    exact V_iret hc hr w1 ⟨σ1, Or.inl hok, hW1⟩ rfl dL_call_158
set_option maxHeartbeats 4000000 in
theorem lc_call_2 {l : Launch} (hl0 : l.stackTraces = false) {D : va_G} {t : Nat → ClassId} {hB : Nat} {σ : aW} {ws0 : va_W} (hCW : CW t hB ws0 σ) (hI : ivE σ) {a b : Int} (h2 : inR a) (h3 : inR b) : MWi l D t yL_call wsL_call rm_L_call [.ref hB, .int (iI 2), .int (iI a), .int (iI b)] ws0 idW (po_L t hB (cR (ok_begin σ) (rf_begin σ) xcS σ)) 2 12 := by
  refine M_ofw (cc := cL_call) (nL := 5) (hh := [(0, 158, 159, 51), (0, 158, 164, 53), (0, 158, 169, 55)]) (by decide) rfl (Nat.le_of_ble_eq_true rfl) ?_
  intro p e s m args below meth c A hc hG hT hr
  refine V_lv [0, 1, 2, 3] [(0, .ref hB), (1, .int (iI 2)), (2, .int (iI a)), (3, .int (iI b))] rfl ?_
  refine V_iload_n hc dL_call_0 1 rfl ?_
  refine V_if_ne (tgt := 12) (X := True) (Y := False) hc dL_call_1 (by decide) ⟨by decide, fun _ => trivial, fun h => h (by decide)⟩ (fun _ => ?_) (fun h => h.elim)
  refine V_iload_n hc dL_call_12 1 rfl ?_
  refine V_iconst hc dL_call_13 ?_
  refine V_icmp_ne (tgt := 25) (X := True) (Y := False) hc dL_call_14 (by decide) ⟨by decide, by decide, fun _ => trivial, fun h => h (by decide)⟩ (fun _ => ?_) (fun h => h.elim)
  refine V_iload_n hc dL_call_25 1 rfl ?_
  refine V_iconst hc dL_call_26 ?_
  refine V_icmp_ne (tgt := 37) (X := False) (Y := True) hc dL_call_27 (by decide) ⟨by decide, by decide, fun h => absurd h (by decide), fun _ => trivial⟩ (fun h => h.elim) (fun _ => ?_)
  refine V_aload_n hc dL_call_30 0 rfl ?_
  refine V_tc (As := []) hc (fc_begin hl0 hCW hI ) rfl gL_call_X4_begin rfl ⟨rfl, rfl⟩ ok_X4_begin ⟨Nat.le_of_ble_eq_true rfl, Nat.le_of_ble_eq_true rfl⟩ (Nat.le_of_ble_eq_true rfl) dL_call_31 ⟨Nat.le_of_ble_eq_true rfl, Nat.le_of_ble_eq_true rfl⟩ (fun j q9 w1 hj hW1 => ?_) (fun r σ1 w1 hok hW1 => ?_)
  · obtain ⟨rfl, hj⟩ := hj
    refine ⟨[(⟨0, 158, 159, 51⟩ : ExceptionTableEntry), (⟨0, 158, 164, 53⟩ : ExceptionTableEntry)], (⟨0, 158, 169, 55⟩ : ExceptionTableEntry), [], "java/lang/IllegalStateException", hT, List.forall_mem_cons.mpr ⟨⟨by decide, "java/lang/IndexOutOfBoundsException", m_L_call_c51, hG.2.2⟩, List.forall_mem_cons.mpr ⟨⟨by decide, "java/lang/IllegalArgumentException", m_L_call_c53, hG.1⟩, fun z hz => absurd hz List.not_mem_nil⟩⟩, by decide, by decide, m_L_call_c55, by decide, ?_⟩
    refine V_astore hc dL_call_169 [(4, .ref q9), (0, .ref hB), (1, .int (iI 2)), (2, .int (iI a)), (3, .int (iI b))] (Nat.le_of_ble_eq_true rfl) rfl ?_
    refine V_bipush hc dL_call_171 (by decide) ?_
    refine V_widen (k1 := 2) (n1 := 12) (Nat.le_of_ble_eq_true rfl) (Nat.le_of_ble_eq_true rfl) ?_
    exact V_iret hc hr w1 ⟨σ, Or.inr ⟨1, hj, rfl, rfl⟩, hW1⟩ rfl dL_call_173
  · refine V_goto (tgt := 158) hc dL_call_34 (by decide) ?_
    refine V_widen (k1 := 2) (n1 := 12) (Nat.le_of_ble_eq_true rfl) (Nat.le_of_ble_eq_true rfl) ?_
    exact V_iret hc hr w1 ⟨σ1, Or.inl hok, hW1⟩ rfl dL_call_158
set_option maxHeartbeats 4000000 in
theorem lc_call_3 {l : Launch} (hl0 : l.stackTraces = false) {D : va_G} {t : Nat → ClassId} {hB : Nat} {σ : aW} {ws0 : va_W} (hCW : CW t hB ws0 σ) (hI : ivE σ) {a b : Int} (h2 : inR a) (h3 : inR b) : MWi l D t yL_call wsL_call rm_L_call [.ref hB, .int (iI 3), .int (iI a), .int (iI b)] ws0 idW (po_L t hB (cR (ok_abandon σ) (rf_abandon σ) xcS σ)) 2 12 := by
  refine M_ofw (cc := cL_call) (nL := 5) (hh := [(0, 158, 159, 51), (0, 158, 164, 53), (0, 158, 169, 55)]) (by decide) rfl (Nat.le_of_ble_eq_true rfl) ?_
  intro p e s m args below meth c A hc hG hT hr
  refine V_lv [0, 1, 2, 3] [(0, .ref hB), (1, .int (iI 3)), (2, .int (iI a)), (3, .int (iI b))] rfl ?_
  refine V_iload_n hc dL_call_0 1 rfl ?_
  refine V_if_ne (tgt := 12) (X := True) (Y := False) hc dL_call_1 (by decide) ⟨by decide, fun _ => trivial, fun h => h (by decide)⟩ (fun _ => ?_) (fun h => h.elim)
  refine V_iload_n hc dL_call_12 1 rfl ?_
  refine V_iconst hc dL_call_13 ?_
  refine V_icmp_ne (tgt := 25) (X := True) (Y := False) hc dL_call_14 (by decide) ⟨by decide, by decide, fun _ => trivial, fun h => h (by decide)⟩ (fun _ => ?_) (fun h => h.elim)
  refine V_iload_n hc dL_call_25 1 rfl ?_
  refine V_iconst hc dL_call_26 ?_
  refine V_icmp_ne (tgt := 37) (X := True) (Y := False) hc dL_call_27 (by decide) ⟨by decide, by decide, fun _ => trivial, fun h => h (by decide)⟩ (fun _ => ?_) (fun h => h.elim)
  refine V_iload_n hc dL_call_37 1 rfl ?_
  refine V_iconst hc dL_call_38 ?_
  refine V_icmp_ne (tgt := 49) (X := False) (Y := True) hc dL_call_39 (by decide) ⟨by decide, by decide, fun h => absurd h (by decide), fun _ => trivial⟩ (fun h => h.elim) (fun _ => ?_)
  refine V_aload_n hc dL_call_42 0 rfl ?_
  refine V_tc (As := []) hc (fc_abandon hl0 hCW hI ) rfl gL_call_X4_abandon rfl ⟨rfl, rfl⟩ ok_X4_abandon ⟨Nat.le_of_ble_eq_true rfl, Nat.le_of_ble_eq_true rfl⟩ (Nat.le_of_ble_eq_true rfl) dL_call_43 ⟨Nat.le_of_ble_eq_true rfl, Nat.le_of_ble_eq_true rfl⟩ (fun j q9 w1 hj hW1 => ?_) (fun r σ1 w1 hok hW1 => ?_)
  · obtain ⟨rfl, hj⟩ := hj
    refine ⟨[(⟨0, 158, 159, 51⟩ : ExceptionTableEntry), (⟨0, 158, 164, 53⟩ : ExceptionTableEntry)], (⟨0, 158, 169, 55⟩ : ExceptionTableEntry), [], "java/lang/IllegalStateException", hT, List.forall_mem_cons.mpr ⟨⟨by decide, "java/lang/IndexOutOfBoundsException", m_L_call_c51, hG.2.2⟩, List.forall_mem_cons.mpr ⟨⟨by decide, "java/lang/IllegalArgumentException", m_L_call_c53, hG.1⟩, fun z hz => absurd hz List.not_mem_nil⟩⟩, by decide, by decide, m_L_call_c55, by decide, ?_⟩
    refine V_astore hc dL_call_169 [(4, .ref q9), (0, .ref hB), (1, .int (iI 3)), (2, .int (iI a)), (3, .int (iI b))] (Nat.le_of_ble_eq_true rfl) rfl ?_
    refine V_bipush hc dL_call_171 (by decide) ?_
    refine V_widen (k1 := 2) (n1 := 12) (Nat.le_of_ble_eq_true rfl) (Nat.le_of_ble_eq_true rfl) ?_
    exact V_iret hc hr w1 ⟨σ, Or.inr ⟨1, hj, rfl, rfl⟩, hW1⟩ rfl dL_call_173
  · refine V_goto (tgt := 158) hc dL_call_46 (by decide) ?_
    refine V_widen (k1 := 2) (n1 := 12) (Nat.le_of_ble_eq_true rfl) (Nat.le_of_ble_eq_true rfl) ?_
    exact V_iret hc hr w1 ⟨σ1, Or.inl hok, hW1⟩ rfl dL_call_158
set_option maxHeartbeats 4000000 in
theorem lc_call_4 {l : Launch} (hl0 : l.stackTraces = false) {D : va_G} {t : Nat → ClassId} {hB : Nat} {σ : aW} {ws0 : va_W} (hCW : CW t hB ws0 σ) (hI : ivE σ) {a b : Int} (h2 : inR a) (h3 : inR b) : MWi l D t yL_call wsL_call rm_L_call [.ref hB, .int (iI 4), .int (iI a), .int (iI b)] ws0 idW (po_L t hB (cR (ok_set σ a b) (rf_set σ a b) xc20 σ)) 2 12 := by
  refine M_ofw (cc := cL_call) (nL := 5) (hh := [(0, 158, 159, 51), (0, 158, 164, 53), (0, 158, 169, 55)]) (by decide) rfl (Nat.le_of_ble_eq_true rfl) ?_
  intro p e s m args below meth c A hc hG hT hr
  refine V_lv [0, 1, 2, 3] [(0, .ref hB), (1, .int (iI 4)), (2, .int (iI a)), (3, .int (iI b))] rfl ?_
  refine V_iload_n hc dL_call_0 1 rfl ?_
  refine V_if_ne (tgt := 12) (X := True) (Y := False) hc dL_call_1 (by decide) ⟨by decide, fun _ => trivial, fun h => h (by decide)⟩ (fun _ => ?_) (fun h => h.elim)
  refine V_iload_n hc dL_call_12 1 rfl ?_
  refine V_iconst hc dL_call_13 ?_
  refine V_icmp_ne (tgt := 25) (X := True) (Y := False) hc dL_call_14 (by decide) ⟨by decide, by decide, fun _ => trivial, fun h => h (by decide)⟩ (fun _ => ?_) (fun h => h.elim)
  refine V_iload_n hc dL_call_25 1 rfl ?_
  refine V_iconst hc dL_call_26 ?_
  refine V_icmp_ne (tgt := 37) (X := True) (Y := False) hc dL_call_27 (by decide) ⟨by decide, by decide, fun _ => trivial, fun h => h (by decide)⟩ (fun _ => ?_) (fun h => h.elim)
  refine V_iload_n hc dL_call_37 1 rfl ?_
  refine V_iconst hc dL_call_38 ?_
  refine V_icmp_ne (tgt := 49) (X := True) (Y := False) hc dL_call_39 (by decide) ⟨by decide, by decide, fun _ => trivial, fun h => h (by decide)⟩ (fun _ => ?_) (fun h => h.elim)
  refine V_iload_n hc dL_call_49 1 rfl ?_
  refine V_iconst hc dL_call_50 ?_
  refine V_icmp_ne (tgt := 63) (X := False) (Y := True) hc dL_call_51 (by decide) ⟨by decide, by decide, fun h => absurd h (by decide), fun _ => trivial⟩ (fun h => h.elim) (fun _ => ?_)
  refine V_aload_n hc dL_call_54 0 rfl ?_
  refine V_iload_n hc dL_call_55 2 rfl ?_
  refine V_iload_n hc dL_call_56 3 rfl ?_
  refine V_tc (As := [.int (iI a), .int (iI b)]) hc (fc_set hl0 hCW hI h2 h3) rfl gL_call_X4_set rfl ⟨rfl, rfl⟩ ok_X4_set ⟨Nat.le_of_ble_eq_true rfl, Nat.le_of_ble_eq_true rfl⟩ (Nat.le_of_ble_eq_true rfl) dL_call_57 ⟨Nat.le_of_ble_eq_true rfl, Nat.le_of_ble_eq_true rfl⟩ (fun j q9 w1 hj hW1 => ?_) (fun r σ1 w1 hok hW1 => ?_)
  · rcases hj with ⟨rfl | rfl, hj⟩
    · refine ⟨[], (⟨0, 158, 159, 51⟩ : ExceptionTableEntry), [(⟨0, 158, 164, 53⟩ : ExceptionTableEntry), (⟨0, 158, 169, 55⟩ : ExceptionTableEntry)], "java/lang/IndexOutOfBoundsException", hT, fun z hz => absurd hz List.not_mem_nil, by decide, by decide, m_L_call_c51, by decide, ?_⟩
      refine V_astore hc dL_call_159 [(4, .ref q9), (0, .ref hB), (1, .int (iI 4)), (2, .int (iI a)), (3, .int (iI b))] (Nat.le_of_ble_eq_true rfl) rfl ?_
      refine V_bipush hc dL_call_161 (by decide) ?_
      refine V_widen (k1 := 2) (n1 := 12) (Nat.le_of_ble_eq_true rfl) (Nat.le_of_ble_eq_true rfl) ?_
      exact V_iret hc hr w1 ⟨σ, Or.inr ⟨1, hj, rfl, rfl⟩, hW1⟩ rfl dL_call_163
    · refine ⟨[(⟨0, 158, 159, 51⟩ : ExceptionTableEntry)], (⟨0, 158, 164, 53⟩ : ExceptionTableEntry), [(⟨0, 158, 169, 55⟩ : ExceptionTableEntry)], "java/lang/IllegalArgumentException", hT, List.forall_mem_cons.mpr ⟨⟨by decide, "java/lang/IndexOutOfBoundsException", m_L_call_c51, hG.2.1⟩, fun z hz => absurd hz List.not_mem_nil⟩, by decide, by decide, m_L_call_c53, by decide, ?_⟩
      refine V_astore hc dL_call_164 [(4, .ref q9), (0, .ref hB), (1, .int (iI 4)), (2, .int (iI a)), (3, .int (iI b))] (Nat.le_of_ble_eq_true rfl) rfl ?_
      refine V_bipush hc dL_call_166 (by decide) ?_
      refine V_widen (k1 := 2) (n1 := 12) (Nat.le_of_ble_eq_true rfl) (Nat.le_of_ble_eq_true rfl) ?_
      exact V_iret hc hr w1 ⟨σ, Or.inr ⟨2, hj, rfl, rfl⟩, hW1⟩ rfl dL_call_168
  · refine V_goto (tgt := 158) hc dL_call_60 (by decide) ?_
    refine V_widen (k1 := 2) (n1 := 12) (Nat.le_of_ble_eq_true rfl) (Nat.le_of_ble_eq_true rfl) ?_
    exact V_iret hc hr w1 ⟨σ1, Or.inl hok, hW1⟩ rfl dL_call_158
set_option maxHeartbeats 4000000 in
theorem lc_call_5 {l : Launch} (hl0 : l.stackTraces = false) {D : va_G} {t : Nat → ClassId} {hB : Nat} {σ : aW} {ws0 : va_W} (hCW : CW t hB ws0 σ) (hI : ivE σ) {a b : Int} (h2 : inR a) (h3 : inR b) : MWi l D t yL_call wsL_call rm_L_call [.ref hB, .int (iI 5), .int (iI a), .int (iI b)] ws0 idW (po_L t hB (cR (ok_append σ a) (rf_append σ a) xc10 σ)) 2 12 := by
  refine M_ofw (cc := cL_call) (nL := 5) (hh := [(0, 158, 159, 51), (0, 158, 164, 53), (0, 158, 169, 55)]) (by decide) rfl (Nat.le_of_ble_eq_true rfl) ?_
  intro p e s m args below meth c A hc hG hT hr
  refine V_lv [0, 1, 2, 3] [(0, .ref hB), (1, .int (iI 5)), (2, .int (iI a)), (3, .int (iI b))] rfl ?_
  refine V_iload_n hc dL_call_0 1 rfl ?_
  refine V_if_ne (tgt := 12) (X := True) (Y := False) hc dL_call_1 (by decide) ⟨by decide, fun _ => trivial, fun h => h (by decide)⟩ (fun _ => ?_) (fun h => h.elim)
  refine V_iload_n hc dL_call_12 1 rfl ?_
  refine V_iconst hc dL_call_13 ?_
  refine V_icmp_ne (tgt := 25) (X := True) (Y := False) hc dL_call_14 (by decide) ⟨by decide, by decide, fun _ => trivial, fun h => h (by decide)⟩ (fun _ => ?_) (fun h => h.elim)
  refine V_iload_n hc dL_call_25 1 rfl ?_
  refine V_iconst hc dL_call_26 ?_
  refine V_icmp_ne (tgt := 37) (X := True) (Y := False) hc dL_call_27 (by decide) ⟨by decide, by decide, fun _ => trivial, fun h => h (by decide)⟩ (fun _ => ?_) (fun h => h.elim)
  refine V_iload_n hc dL_call_37 1 rfl ?_
  refine V_iconst hc dL_call_38 ?_
  refine V_icmp_ne (tgt := 49) (X := True) (Y := False) hc dL_call_39 (by decide) ⟨by decide, by decide, fun _ => trivial, fun h => h (by decide)⟩ (fun _ => ?_) (fun h => h.elim)
  refine V_iload_n hc dL_call_49 1 rfl ?_
  refine V_iconst hc dL_call_50 ?_
  refine V_icmp_ne (tgt := 63) (X := True) (Y := False) hc dL_call_51 (by decide) ⟨by decide, by decide, fun _ => trivial, fun h => h (by decide)⟩ (fun _ => ?_) (fun h => h.elim)
  refine V_iload_n hc dL_call_63 1 rfl ?_
  refine V_iconst hc dL_call_64 ?_
  refine V_icmp_ne (tgt := 76) (X := False) (Y := True) hc dL_call_65 (by decide) ⟨by decide, by decide, fun h => absurd h (by decide), fun _ => trivial⟩ (fun h => h.elim) (fun _ => ?_)
  refine V_aload_n hc dL_call_68 0 rfl ?_
  refine V_iload_n hc dL_call_69 2 rfl ?_
  refine V_tc (As := [.int (iI a)]) hc (fc_append hl0 hCW hI h2) rfl gL_call_X4_append rfl ⟨rfl, rfl⟩ ok_X4_append ⟨Nat.le_of_ble_eq_true rfl, Nat.le_of_ble_eq_true rfl⟩ (Nat.le_of_ble_eq_true rfl) dL_call_70 ⟨Nat.le_of_ble_eq_true rfl, Nat.le_of_ble_eq_true rfl⟩ (fun j q9 w1 hj hW1 => ?_) (fun r σ1 w1 hok hW1 => ?_)
  · rcases hj with ⟨rfl | rfl, hj⟩
    · refine ⟨[(⟨0, 158, 159, 51⟩ : ExceptionTableEntry)], (⟨0, 158, 164, 53⟩ : ExceptionTableEntry), [(⟨0, 158, 169, 55⟩ : ExceptionTableEntry)], "java/lang/IllegalArgumentException", hT, List.forall_mem_cons.mpr ⟨⟨by decide, "java/lang/IndexOutOfBoundsException", m_L_call_c51, hG.2.1⟩, fun z hz => absurd hz List.not_mem_nil⟩, by decide, by decide, m_L_call_c53, by decide, ?_⟩
      refine V_astore hc dL_call_164 [(4, .ref q9), (0, .ref hB), (1, .int (iI 5)), (2, .int (iI a)), (3, .int (iI b))] (Nat.le_of_ble_eq_true rfl) rfl ?_
      refine V_bipush hc dL_call_166 (by decide) ?_
      refine V_widen (k1 := 2) (n1 := 12) (Nat.le_of_ble_eq_true rfl) (Nat.le_of_ble_eq_true rfl) ?_
      exact V_iret hc hr w1 ⟨σ, Or.inr ⟨1, hj, rfl, rfl⟩, hW1⟩ rfl dL_call_168
    · refine ⟨[(⟨0, 158, 159, 51⟩ : ExceptionTableEntry), (⟨0, 158, 164, 53⟩ : ExceptionTableEntry)], (⟨0, 158, 169, 55⟩ : ExceptionTableEntry), [], "java/lang/IllegalStateException", hT, List.forall_mem_cons.mpr ⟨⟨by decide, "java/lang/IndexOutOfBoundsException", m_L_call_c51, hG.2.2⟩, List.forall_mem_cons.mpr ⟨⟨by decide, "java/lang/IllegalArgumentException", m_L_call_c53, hG.1⟩, fun z hz => absurd hz List.not_mem_nil⟩⟩, by decide, by decide, m_L_call_c55, by decide, ?_⟩
      refine V_astore hc dL_call_169 [(4, .ref q9), (0, .ref hB), (1, .int (iI 5)), (2, .int (iI a)), (3, .int (iI b))] (Nat.le_of_ble_eq_true rfl) rfl ?_
      refine V_bipush hc dL_call_171 (by decide) ?_
      refine V_widen (k1 := 2) (n1 := 12) (Nat.le_of_ble_eq_true rfl) (Nat.le_of_ble_eq_true rfl) ?_
      exact V_iret hc hr w1 ⟨σ, Or.inr ⟨2, hj, rfl, rfl⟩, hW1⟩ rfl dL_call_173
  · refine V_goto (tgt := 158) hc dL_call_73 (by decide) ?_
    refine V_widen (k1 := 2) (n1 := 12) (Nat.le_of_ble_eq_true rfl) (Nat.le_of_ble_eq_true rfl) ?_
    exact V_iret hc hr w1 ⟨σ1, Or.inl hok, hW1⟩ rfl dL_call_158
set_option maxHeartbeats 4000000 in
theorem lc_call_6 {l : Launch} (hl0 : l.stackTraces = false) {D : va_G} {t : Nat → ClassId} {hB : Nat} {σ : aW} {ws0 : va_W} (hCW : CW t hB ws0 σ) (hI : ivE σ) {a b : Int} (h2 : inR a) (h3 : inR b) : MWi l D t yL_call wsL_call rm_L_call [.ref hB, .int (iI 6), .int (iI a), .int (iI b)] ws0 idW (po_L t hB (cR (ok_execute σ) (rf_execute σ) xc1 σ)) 2 12 := by
  refine M_ofw (cc := cL_call) (nL := 5) (hh := [(0, 158, 159, 51), (0, 158, 164, 53), (0, 158, 169, 55)]) (by decide) rfl (Nat.le_of_ble_eq_true rfl) ?_
  intro p e s m args below meth c A hc hG hT hr
  refine V_lv [0, 1, 2, 3] [(0, .ref hB), (1, .int (iI 6)), (2, .int (iI a)), (3, .int (iI b))] rfl ?_
  refine V_iload_n hc dL_call_0 1 rfl ?_
  refine V_if_ne (tgt := 12) (X := True) (Y := False) hc dL_call_1 (by decide) ⟨by decide, fun _ => trivial, fun h => h (by decide)⟩ (fun _ => ?_) (fun h => h.elim)
  refine V_iload_n hc dL_call_12 1 rfl ?_
  refine V_iconst hc dL_call_13 ?_
  refine V_icmp_ne (tgt := 25) (X := True) (Y := False) hc dL_call_14 (by decide) ⟨by decide, by decide, fun _ => trivial, fun h => h (by decide)⟩ (fun _ => ?_) (fun h => h.elim)
  refine V_iload_n hc dL_call_25 1 rfl ?_
  refine V_iconst hc dL_call_26 ?_
  refine V_icmp_ne (tgt := 37) (X := True) (Y := False) hc dL_call_27 (by decide) ⟨by decide, by decide, fun _ => trivial, fun h => h (by decide)⟩ (fun _ => ?_) (fun h => h.elim)
  refine V_iload_n hc dL_call_37 1 rfl ?_
  refine V_iconst hc dL_call_38 ?_
  refine V_icmp_ne (tgt := 49) (X := True) (Y := False) hc dL_call_39 (by decide) ⟨by decide, by decide, fun _ => trivial, fun h => h (by decide)⟩ (fun _ => ?_) (fun h => h.elim)
  refine V_iload_n hc dL_call_49 1 rfl ?_
  refine V_iconst hc dL_call_50 ?_
  refine V_icmp_ne (tgt := 63) (X := True) (Y := False) hc dL_call_51 (by decide) ⟨by decide, by decide, fun _ => trivial, fun h => h (by decide)⟩ (fun _ => ?_) (fun h => h.elim)
  refine V_iload_n hc dL_call_63 1 rfl ?_
  refine V_iconst hc dL_call_64 ?_
  refine V_icmp_ne (tgt := 76) (X := True) (Y := False) hc dL_call_65 (by decide) ⟨by decide, by decide, fun _ => trivial, fun h => h (by decide)⟩ (fun _ => ?_) (fun h => h.elim)
  refine V_iload_n hc dL_call_76 1 rfl ?_
  refine V_bipush hc dL_call_77 (by decide) ?_
  refine V_icmp_ne (tgt := 89) (X := False) (Y := True) hc dL_call_79 (by decide) ⟨by decide, by decide, fun h => absurd h (by decide), fun _ => trivial⟩ (fun h => h.elim) (fun _ => ?_)
  refine V_aload_n hc dL_call_82 0 rfl ?_
  refine V_tc (As := []) hc (fc_execute hl0 hCW hI ) rfl gL_call_X4_execute rfl ⟨rfl, rfl⟩ ok_X4_execute ⟨Nat.le_of_ble_eq_true rfl, Nat.le_of_ble_eq_true rfl⟩ (Nat.le_of_ble_eq_true rfl) dL_call_83 ⟨Nat.le_of_ble_eq_true rfl, Nat.le_of_ble_eq_true rfl⟩ (fun j q9 w1 hj hW1 => ?_) (fun r σ1 w1 hok hW1 => ?_)
  · obtain ⟨rfl, hj⟩ := hj
    refine ⟨[(⟨0, 158, 159, 51⟩ : ExceptionTableEntry)], (⟨0, 158, 164, 53⟩ : ExceptionTableEntry), [(⟨0, 158, 169, 55⟩ : ExceptionTableEntry)], "java/lang/IllegalArgumentException", hT, List.forall_mem_cons.mpr ⟨⟨by decide, "java/lang/IndexOutOfBoundsException", m_L_call_c51, hG.2.1⟩, fun z hz => absurd hz List.not_mem_nil⟩, by decide, by decide, m_L_call_c53, by decide, ?_⟩
    refine V_astore hc dL_call_164 [(4, .ref q9), (0, .ref hB), (1, .int (iI 6)), (2, .int (iI a)), (3, .int (iI b))] (Nat.le_of_ble_eq_true rfl) rfl ?_
    refine V_bipush hc dL_call_166 (by decide) ?_
    refine V_widen (k1 := 2) (n1 := 12) (Nat.le_of_ble_eq_true rfl) (Nat.le_of_ble_eq_true rfl) ?_
    exact V_iret hc hr w1 ⟨σ, Or.inr ⟨1, hj, rfl, rfl⟩, hW1⟩ rfl dL_call_168
  · refine V_goto (tgt := 158) hc dL_call_86 (by decide) ?_
    refine V_widen (k1 := 2) (n1 := 12) (Nat.le_of_ble_eq_true rfl) (Nat.le_of_ble_eq_true rfl) ?_
    exact V_iret hc hr w1 ⟨σ1, Or.inl hok, hW1⟩ rfl dL_call_158
set_option maxHeartbeats 4000000 in
theorem lc_call_7 {l : Launch} (hl0 : l.stackTraces = false) {D : va_G} {t : Nat → ClassId} {hB : Nat} {σ : aW} {ws0 : va_W} (hCW : CW t hB ws0 σ) (hI : ivE σ) {a b : Int} (h2 : inR a) (h3 : inR b) : MWi l D t yL_call wsL_call rm_L_call [.ref hB, .int (iI 7), .int (iI a), .int (iI b)] ws0 idW (po_L t hB (cR (ok_undo σ) (rf_undo σ) xcS σ)) 2 12 := by
  refine M_ofw (cc := cL_call) (nL := 5) (hh := [(0, 158, 159, 51), (0, 158, 164, 53), (0, 158, 169, 55)]) (by decide) rfl (Nat.le_of_ble_eq_true rfl) ?_
  intro p e s m args below meth c A hc hG hT hr
  refine V_lv [0, 1, 2, 3] [(0, .ref hB), (1, .int (iI 7)), (2, .int (iI a)), (3, .int (iI b))] rfl ?_
  refine V_iload_n hc dL_call_0 1 rfl ?_
  refine V_if_ne (tgt := 12) (X := True) (Y := False) hc dL_call_1 (by decide) ⟨by decide, fun _ => trivial, fun h => h (by decide)⟩ (fun _ => ?_) (fun h => h.elim)
  refine V_iload_n hc dL_call_12 1 rfl ?_
  refine V_iconst hc dL_call_13 ?_
  refine V_icmp_ne (tgt := 25) (X := True) (Y := False) hc dL_call_14 (by decide) ⟨by decide, by decide, fun _ => trivial, fun h => h (by decide)⟩ (fun _ => ?_) (fun h => h.elim)
  refine V_iload_n hc dL_call_25 1 rfl ?_
  refine V_iconst hc dL_call_26 ?_
  refine V_icmp_ne (tgt := 37) (X := True) (Y := False) hc dL_call_27 (by decide) ⟨by decide, by decide, fun _ => trivial, fun h => h (by decide)⟩ (fun _ => ?_) (fun h => h.elim)
  refine V_iload_n hc dL_call_37 1 rfl ?_
  refine V_iconst hc dL_call_38 ?_
  refine V_icmp_ne (tgt := 49) (X := True) (Y := False) hc dL_call_39 (by decide) ⟨by decide, by decide, fun _ => trivial, fun h => h (by decide)⟩ (fun _ => ?_) (fun h => h.elim)
  refine V_iload_n hc dL_call_49 1 rfl ?_
  refine V_iconst hc dL_call_50 ?_
  refine V_icmp_ne (tgt := 63) (X := True) (Y := False) hc dL_call_51 (by decide) ⟨by decide, by decide, fun _ => trivial, fun h => h (by decide)⟩ (fun _ => ?_) (fun h => h.elim)
  refine V_iload_n hc dL_call_63 1 rfl ?_
  refine V_iconst hc dL_call_64 ?_
  refine V_icmp_ne (tgt := 76) (X := True) (Y := False) hc dL_call_65 (by decide) ⟨by decide, by decide, fun _ => trivial, fun h => h (by decide)⟩ (fun _ => ?_) (fun h => h.elim)
  refine V_iload_n hc dL_call_76 1 rfl ?_
  refine V_bipush hc dL_call_77 (by decide) ?_
  refine V_icmp_ne (tgt := 89) (X := True) (Y := False) hc dL_call_79 (by decide) ⟨by decide, by decide, fun _ => trivial, fun h => h (by decide)⟩ (fun _ => ?_) (fun h => h.elim)
  refine V_iload_n hc dL_call_89 1 rfl ?_
  refine V_bipush hc dL_call_90 (by decide) ?_
  refine V_icmp_ne (tgt := 102) (X := False) (Y := True) hc dL_call_92 (by decide) ⟨by decide, by decide, fun h => absurd h (by decide), fun _ => trivial⟩ (fun h => h.elim) (fun _ => ?_)
  refine V_aload_n hc dL_call_95 0 rfl ?_
  refine V_tc (As := []) hc (fc_undo hl0 hCW hI ) rfl gL_call_X4_undo rfl ⟨rfl, rfl⟩ ok_X4_undo ⟨Nat.le_of_ble_eq_true rfl, Nat.le_of_ble_eq_true rfl⟩ (Nat.le_of_ble_eq_true rfl) dL_call_96 ⟨Nat.le_of_ble_eq_true rfl, Nat.le_of_ble_eq_true rfl⟩ (fun j q9 w1 hj hW1 => ?_) (fun r σ1 w1 hok hW1 => ?_)
  · obtain ⟨rfl, hj⟩ := hj
    refine ⟨[(⟨0, 158, 159, 51⟩ : ExceptionTableEntry), (⟨0, 158, 164, 53⟩ : ExceptionTableEntry)], (⟨0, 158, 169, 55⟩ : ExceptionTableEntry), [], "java/lang/IllegalStateException", hT, List.forall_mem_cons.mpr ⟨⟨by decide, "java/lang/IndexOutOfBoundsException", m_L_call_c51, hG.2.2⟩, List.forall_mem_cons.mpr ⟨⟨by decide, "java/lang/IllegalArgumentException", m_L_call_c53, hG.1⟩, fun z hz => absurd hz List.not_mem_nil⟩⟩, by decide, by decide, m_L_call_c55, by decide, ?_⟩
    refine V_astore hc dL_call_169 [(4, .ref q9), (0, .ref hB), (1, .int (iI 7)), (2, .int (iI a)), (3, .int (iI b))] (Nat.le_of_ble_eq_true rfl) rfl ?_
    refine V_bipush hc dL_call_171 (by decide) ?_
    refine V_widen (k1 := 2) (n1 := 12) (Nat.le_of_ble_eq_true rfl) (Nat.le_of_ble_eq_true rfl) ?_
    exact V_iret hc hr w1 ⟨σ, Or.inr ⟨1, hj, rfl, rfl⟩, hW1⟩ rfl dL_call_173
  · refine V_goto (tgt := 158) hc dL_call_99 (by decide) ?_
    refine V_widen (k1 := 2) (n1 := 12) (Nat.le_of_ble_eq_true rfl) (Nat.le_of_ble_eq_true rfl) ?_
    exact V_iret hc hr w1 ⟨σ1, Or.inl hok, hW1⟩ rfl dL_call_158
set_option maxHeartbeats 4000000 in
theorem lc_call_8 {l : Launch} (hl0 : l.stackTraces = false) {D : va_G} {t : Nat → ClassId} {hB : Nat} {σ : aW} {ws0 : va_W} (hCW : CW t hB ws0 σ) (hI : ivE σ) {a b : Int} (h2 : inR a) (h3 : inR b) : MWi l D t yL_call wsL_call rm_L_call [.ref hB, .int (iI 8), .int (iI a), .int (iI b)] ws0 idW (po_L t hB (cR (ok_keep σ a) (rf_keep σ a) xc1 σ)) 2 12 := by
  refine M_ofw (cc := cL_call) (nL := 5) (hh := [(0, 158, 159, 51), (0, 158, 164, 53), (0, 158, 169, 55)]) (by decide) rfl (Nat.le_of_ble_eq_true rfl) ?_
  intro p e s m args below meth c A hc hG hT hr
  refine V_lv [0, 1, 2, 3] [(0, .ref hB), (1, .int (iI 8)), (2, .int (iI a)), (3, .int (iI b))] rfl ?_
  refine V_iload_n hc dL_call_0 1 rfl ?_
  refine V_if_ne (tgt := 12) (X := True) (Y := False) hc dL_call_1 (by decide) ⟨by decide, fun _ => trivial, fun h => h (by decide)⟩ (fun _ => ?_) (fun h => h.elim)
  refine V_iload_n hc dL_call_12 1 rfl ?_
  refine V_iconst hc dL_call_13 ?_
  refine V_icmp_ne (tgt := 25) (X := True) (Y := False) hc dL_call_14 (by decide) ⟨by decide, by decide, fun _ => trivial, fun h => h (by decide)⟩ (fun _ => ?_) (fun h => h.elim)
  refine V_iload_n hc dL_call_25 1 rfl ?_
  refine V_iconst hc dL_call_26 ?_
  refine V_icmp_ne (tgt := 37) (X := True) (Y := False) hc dL_call_27 (by decide) ⟨by decide, by decide, fun _ => trivial, fun h => h (by decide)⟩ (fun _ => ?_) (fun h => h.elim)
  refine V_iload_n hc dL_call_37 1 rfl ?_
  refine V_iconst hc dL_call_38 ?_
  refine V_icmp_ne (tgt := 49) (X := True) (Y := False) hc dL_call_39 (by decide) ⟨by decide, by decide, fun _ => trivial, fun h => h (by decide)⟩ (fun _ => ?_) (fun h => h.elim)
  refine V_iload_n hc dL_call_49 1 rfl ?_
  refine V_iconst hc dL_call_50 ?_
  refine V_icmp_ne (tgt := 63) (X := True) (Y := False) hc dL_call_51 (by decide) ⟨by decide, by decide, fun _ => trivial, fun h => h (by decide)⟩ (fun _ => ?_) (fun h => h.elim)
  refine V_iload_n hc dL_call_63 1 rfl ?_
  refine V_iconst hc dL_call_64 ?_
  refine V_icmp_ne (tgt := 76) (X := True) (Y := False) hc dL_call_65 (by decide) ⟨by decide, by decide, fun _ => trivial, fun h => h (by decide)⟩ (fun _ => ?_) (fun h => h.elim)
  refine V_iload_n hc dL_call_76 1 rfl ?_
  refine V_bipush hc dL_call_77 (by decide) ?_
  refine V_icmp_ne (tgt := 89) (X := True) (Y := False) hc dL_call_79 (by decide) ⟨by decide, by decide, fun _ => trivial, fun h => h (by decide)⟩ (fun _ => ?_) (fun h => h.elim)
  refine V_iload_n hc dL_call_89 1 rfl ?_
  refine V_bipush hc dL_call_90 (by decide) ?_
  refine V_icmp_ne (tgt := 102) (X := True) (Y := False) hc dL_call_92 (by decide) ⟨by decide, by decide, fun _ => trivial, fun h => h (by decide)⟩ (fun _ => ?_) (fun h => h.elim)
  refine V_iload_n hc dL_call_102 1 rfl ?_
  refine V_bipush hc dL_call_103 (by decide) ?_
  refine V_icmp_ne (tgt := 116) (X := False) (Y := True) hc dL_call_105 (by decide) ⟨by decide, by decide, fun h => absurd h (by decide), fun _ => trivial⟩ (fun h => h.elim) (fun _ => ?_)
  refine V_aload_n hc dL_call_108 0 rfl ?_
  refine V_iload_n hc dL_call_109 2 rfl ?_
  refine V_tc (As := [.int (iI a)]) hc (fc_keep hl0 hCW hI h2) rfl gL_call_X4_keep rfl ⟨rfl, rfl⟩ ok_X4_keep ⟨Nat.le_of_ble_eq_true rfl, Nat.le_of_ble_eq_true rfl⟩ (Nat.le_of_ble_eq_true rfl) dL_call_110 ⟨Nat.le_of_ble_eq_true rfl, Nat.le_of_ble_eq_true rfl⟩ (fun j q9 w1 hj hW1 => ?_) (fun r σ1 w1 hok hW1 => ?_)
  · obtain ⟨rfl, hj⟩ := hj
    refine ⟨[(⟨0, 158, 159, 51⟩ : ExceptionTableEntry)], (⟨0, 158, 164, 53⟩ : ExceptionTableEntry), [(⟨0, 158, 169, 55⟩ : ExceptionTableEntry)], "java/lang/IllegalArgumentException", hT, List.forall_mem_cons.mpr ⟨⟨by decide, "java/lang/IndexOutOfBoundsException", m_L_call_c51, hG.2.1⟩, fun z hz => absurd hz List.not_mem_nil⟩, by decide, by decide, m_L_call_c53, by decide, ?_⟩
    refine V_astore hc dL_call_164 [(4, .ref q9), (0, .ref hB), (1, .int (iI 8)), (2, .int (iI a)), (3, .int (iI b))] (Nat.le_of_ble_eq_true rfl) rfl ?_
    refine V_bipush hc dL_call_166 (by decide) ?_
    refine V_widen (k1 := 2) (n1 := 12) (Nat.le_of_ble_eq_true rfl) (Nat.le_of_ble_eq_true rfl) ?_
    exact V_iret hc hr w1 ⟨σ, Or.inr ⟨1, hj, rfl, rfl⟩, hW1⟩ rfl dL_call_168
  · refine V_goto (tgt := 158) hc dL_call_113 (by decide) ?_
    refine V_widen (k1 := 2) (n1 := 12) (Nat.le_of_ble_eq_true rfl) (Nat.le_of_ble_eq_true rfl) ?_
    exact V_iret hc hr w1 ⟨σ1, Or.inl hok, hW1⟩ rfl dL_call_158
set_option maxHeartbeats 4000000 in
theorem lc_call_9 {l : Launch} (hl0 : l.stackTraces = false) {D : va_G} {t : Nat → ClassId} {hB : Nat} {σ : aW} {ws0 : va_W} (hCW : CW t hB ws0 σ) (hI : ivE σ) {a b : Int} (h2 : inR a) (h3 : inR b) : MWi l D t yL_call wsL_call rm_L_call [.ref hB, .int (iI 9), .int (iI a), .int (iI b)] ws0 idW (po_L t hB (cR (ok_goBack σ a) (rf_goBack σ a) xc10 σ)) 2 12 := by
  refine M_ofw (cc := cL_call) (nL := 5) (hh := [(0, 158, 159, 51), (0, 158, 164, 53), (0, 158, 169, 55)]) (by decide) rfl (Nat.le_of_ble_eq_true rfl) ?_
  intro p e s m args below meth c A hc hG hT hr
  refine V_lv [0, 1, 2, 3] [(0, .ref hB), (1, .int (iI 9)), (2, .int (iI a)), (3, .int (iI b))] rfl ?_
  refine V_iload_n hc dL_call_0 1 rfl ?_
  refine V_if_ne (tgt := 12) (X := True) (Y := False) hc dL_call_1 (by decide) ⟨by decide, fun _ => trivial, fun h => h (by decide)⟩ (fun _ => ?_) (fun h => h.elim)
  refine V_iload_n hc dL_call_12 1 rfl ?_
  refine V_iconst hc dL_call_13 ?_
  refine V_icmp_ne (tgt := 25) (X := True) (Y := False) hc dL_call_14 (by decide) ⟨by decide, by decide, fun _ => trivial, fun h => h (by decide)⟩ (fun _ => ?_) (fun h => h.elim)
  refine V_iload_n hc dL_call_25 1 rfl ?_
  refine V_iconst hc dL_call_26 ?_
  refine V_icmp_ne (tgt := 37) (X := True) (Y := False) hc dL_call_27 (by decide) ⟨by decide, by decide, fun _ => trivial, fun h => h (by decide)⟩ (fun _ => ?_) (fun h => h.elim)
  refine V_iload_n hc dL_call_37 1 rfl ?_
  refine V_iconst hc dL_call_38 ?_
  refine V_icmp_ne (tgt := 49) (X := True) (Y := False) hc dL_call_39 (by decide) ⟨by decide, by decide, fun _ => trivial, fun h => h (by decide)⟩ (fun _ => ?_) (fun h => h.elim)
  refine V_iload_n hc dL_call_49 1 rfl ?_
  refine V_iconst hc dL_call_50 ?_
  refine V_icmp_ne (tgt := 63) (X := True) (Y := False) hc dL_call_51 (by decide) ⟨by decide, by decide, fun _ => trivial, fun h => h (by decide)⟩ (fun _ => ?_) (fun h => h.elim)
  refine V_iload_n hc dL_call_63 1 rfl ?_
  refine V_iconst hc dL_call_64 ?_
  refine V_icmp_ne (tgt := 76) (X := True) (Y := False) hc dL_call_65 (by decide) ⟨by decide, by decide, fun _ => trivial, fun h => h (by decide)⟩ (fun _ => ?_) (fun h => h.elim)
  refine V_iload_n hc dL_call_76 1 rfl ?_
  refine V_bipush hc dL_call_77 (by decide) ?_
  refine V_icmp_ne (tgt := 89) (X := True) (Y := False) hc dL_call_79 (by decide) ⟨by decide, by decide, fun _ => trivial, fun h => h (by decide)⟩ (fun _ => ?_) (fun h => h.elim)
  refine V_iload_n hc dL_call_89 1 rfl ?_
  refine V_bipush hc dL_call_90 (by decide) ?_
  refine V_icmp_ne (tgt := 102) (X := True) (Y := False) hc dL_call_92 (by decide) ⟨by decide, by decide, fun _ => trivial, fun h => h (by decide)⟩ (fun _ => ?_) (fun h => h.elim)
  refine V_iload_n hc dL_call_102 1 rfl ?_
  refine V_bipush hc dL_call_103 (by decide) ?_
  refine V_icmp_ne (tgt := 116) (X := True) (Y := False) hc dL_call_105 (by decide) ⟨by decide, by decide, fun _ => trivial, fun h => h (by decide)⟩ (fun _ => ?_) (fun h => h.elim)
  refine V_iload_n hc dL_call_116 1 rfl ?_
  refine V_bipush hc dL_call_117 (by decide) ?_
  refine V_icmp_ne (tgt := 130) (X := False) (Y := True) hc dL_call_119 (by decide) ⟨by decide, by decide, fun h => absurd h (by decide), fun _ => trivial⟩ (fun h => h.elim) (fun _ => ?_)
  refine V_aload_n hc dL_call_122 0 rfl ?_
  refine V_iload_n hc dL_call_123 2 rfl ?_
  refine V_tc (As := [.int (iI a)]) hc (fc_goBack hl0 hCW hI h2) rfl gL_call_X4_goBack rfl ⟨rfl, rfl⟩ ok_X4_goBack ⟨Nat.le_of_ble_eq_true rfl, Nat.le_of_ble_eq_true rfl⟩ (Nat.le_of_ble_eq_true rfl) dL_call_124 ⟨Nat.le_of_ble_eq_true rfl, Nat.le_of_ble_eq_true rfl⟩ (fun j q9 w1 hj hW1 => ?_) (fun r σ1 w1 hok hW1 => ?_)
  · rcases hj with ⟨rfl | rfl, hj⟩
    · refine ⟨[(⟨0, 158, 159, 51⟩ : ExceptionTableEntry)], (⟨0, 158, 164, 53⟩ : ExceptionTableEntry), [(⟨0, 158, 169, 55⟩ : ExceptionTableEntry)], "java/lang/IllegalArgumentException", hT, List.forall_mem_cons.mpr ⟨⟨by decide, "java/lang/IndexOutOfBoundsException", m_L_call_c51, hG.2.1⟩, fun z hz => absurd hz List.not_mem_nil⟩, by decide, by decide, m_L_call_c53, by decide, ?_⟩
      refine V_astore hc dL_call_164 [(4, .ref q9), (0, .ref hB), (1, .int (iI 9)), (2, .int (iI a)), (3, .int (iI b))] (Nat.le_of_ble_eq_true rfl) rfl ?_
      refine V_bipush hc dL_call_166 (by decide) ?_
      refine V_widen (k1 := 2) (n1 := 12) (Nat.le_of_ble_eq_true rfl) (Nat.le_of_ble_eq_true rfl) ?_
      exact V_iret hc hr w1 ⟨σ, Or.inr ⟨1, hj, rfl, rfl⟩, hW1⟩ rfl dL_call_168
    · refine ⟨[(⟨0, 158, 159, 51⟩ : ExceptionTableEntry), (⟨0, 158, 164, 53⟩ : ExceptionTableEntry)], (⟨0, 158, 169, 55⟩ : ExceptionTableEntry), [], "java/lang/IllegalStateException", hT, List.forall_mem_cons.mpr ⟨⟨by decide, "java/lang/IndexOutOfBoundsException", m_L_call_c51, hG.2.2⟩, List.forall_mem_cons.mpr ⟨⟨by decide, "java/lang/IllegalArgumentException", m_L_call_c53, hG.1⟩, fun z hz => absurd hz List.not_mem_nil⟩⟩, by decide, by decide, m_L_call_c55, by decide, ?_⟩
      refine V_astore hc dL_call_169 [(4, .ref q9), (0, .ref hB), (1, .int (iI 9)), (2, .int (iI a)), (3, .int (iI b))] (Nat.le_of_ble_eq_true rfl) rfl ?_
      refine V_bipush hc dL_call_171 (by decide) ?_
      refine V_widen (k1 := 2) (n1 := 12) (Nat.le_of_ble_eq_true rfl) (Nat.le_of_ble_eq_true rfl) ?_
      exact V_iret hc hr w1 ⟨σ, Or.inr ⟨2, hj, rfl, rfl⟩, hW1⟩ rfl dL_call_173
  · refine V_goto (tgt := 158) hc dL_call_127 (by decide) ?_
    refine V_widen (k1 := 2) (n1 := 12) (Nat.le_of_ble_eq_true rfl) (Nat.le_of_ble_eq_true rfl) ?_
    exact V_iret hc hr w1 ⟨σ1, Or.inl hok, hW1⟩ rfl dL_call_158
set_option maxHeartbeats 4000000 in
theorem lc_call_10 {l : Launch} (hl0 : l.stackTraces = false) {D : va_G} {t : Nat → ClassId} {hB : Nat} {σ : aW} {ws0 : va_W} (hCW : CW t hB ws0 σ) (hI : ivE σ) {a b : Int} (h2 : inR a) (h3 : inR b) : MWi l D t yL_call wsL_call rm_L_call [.ref hB, .int (iI 10), .int (iI a), .int (iI b)] ws0 idW (po_L t hB (cR (ok_contains σ a) (rf_contains σ a) xc1 σ)) 2 12 := by
  refine M_ofw (cc := cL_call) (nL := 5) (hh := [(0, 158, 159, 51), (0, 158, 164, 53), (0, 158, 169, 55)]) (by decide) rfl (Nat.le_of_ble_eq_true rfl) ?_
  intro p e s m args below meth c A hc hG hT hr
  refine V_lv [0, 1, 2, 3] [(0, .ref hB), (1, .int (iI 10)), (2, .int (iI a)), (3, .int (iI b))] rfl ?_
  refine V_iload_n hc dL_call_0 1 rfl ?_
  refine V_if_ne (tgt := 12) (X := True) (Y := False) hc dL_call_1 (by decide) ⟨by decide, fun _ => trivial, fun h => h (by decide)⟩ (fun _ => ?_) (fun h => h.elim)
  refine V_iload_n hc dL_call_12 1 rfl ?_
  refine V_iconst hc dL_call_13 ?_
  refine V_icmp_ne (tgt := 25) (X := True) (Y := False) hc dL_call_14 (by decide) ⟨by decide, by decide, fun _ => trivial, fun h => h (by decide)⟩ (fun _ => ?_) (fun h => h.elim)
  refine V_iload_n hc dL_call_25 1 rfl ?_
  refine V_iconst hc dL_call_26 ?_
  refine V_icmp_ne (tgt := 37) (X := True) (Y := False) hc dL_call_27 (by decide) ⟨by decide, by decide, fun _ => trivial, fun h => h (by decide)⟩ (fun _ => ?_) (fun h => h.elim)
  refine V_iload_n hc dL_call_37 1 rfl ?_
  refine V_iconst hc dL_call_38 ?_
  refine V_icmp_ne (tgt := 49) (X := True) (Y := False) hc dL_call_39 (by decide) ⟨by decide, by decide, fun _ => trivial, fun h => h (by decide)⟩ (fun _ => ?_) (fun h => h.elim)
  refine V_iload_n hc dL_call_49 1 rfl ?_
  refine V_iconst hc dL_call_50 ?_
  refine V_icmp_ne (tgt := 63) (X := True) (Y := False) hc dL_call_51 (by decide) ⟨by decide, by decide, fun _ => trivial, fun h => h (by decide)⟩ (fun _ => ?_) (fun h => h.elim)
  refine V_iload_n hc dL_call_63 1 rfl ?_
  refine V_iconst hc dL_call_64 ?_
  refine V_icmp_ne (tgt := 76) (X := True) (Y := False) hc dL_call_65 (by decide) ⟨by decide, by decide, fun _ => trivial, fun h => h (by decide)⟩ (fun _ => ?_) (fun h => h.elim)
  refine V_iload_n hc dL_call_76 1 rfl ?_
  refine V_bipush hc dL_call_77 (by decide) ?_
  refine V_icmp_ne (tgt := 89) (X := True) (Y := False) hc dL_call_79 (by decide) ⟨by decide, by decide, fun _ => trivial, fun h => h (by decide)⟩ (fun _ => ?_) (fun h => h.elim)
  refine V_iload_n hc dL_call_89 1 rfl ?_
  refine V_bipush hc dL_call_90 (by decide) ?_
  refine V_icmp_ne (tgt := 102) (X := True) (Y := False) hc dL_call_92 (by decide) ⟨by decide, by decide, fun _ => trivial, fun h => h (by decide)⟩ (fun _ => ?_) (fun h => h.elim)
  refine V_iload_n hc dL_call_102 1 rfl ?_
  refine V_bipush hc dL_call_103 (by decide) ?_
  refine V_icmp_ne (tgt := 116) (X := True) (Y := False) hc dL_call_105 (by decide) ⟨by decide, by decide, fun _ => trivial, fun h => h (by decide)⟩ (fun _ => ?_) (fun h => h.elim)
  refine V_iload_n hc dL_call_116 1 rfl ?_
  refine V_bipush hc dL_call_117 (by decide) ?_
  refine V_icmp_ne (tgt := 130) (X := True) (Y := False) hc dL_call_119 (by decide) ⟨by decide, by decide, fun _ => trivial, fun h => h (by decide)⟩ (fun _ => ?_) (fun h => h.elim)
  refine V_iload_n hc dL_call_130 1 rfl ?_
  refine V_bipush hc dL_call_131 (by decide) ?_
  refine V_icmp_ne (tgt := 152) (X := False) (Y := True) hc dL_call_133 (by decide) ⟨by decide, by decide, fun h => absurd h (by decide), fun _ => trivial⟩ (fun h => h.elim) (fun _ => ?_)
  refine V_aload_n hc dL_call_136 0 rfl ?_
  refine V_iload_n hc dL_call_137 2 rfl ?_
  refine V_tc (As := [.int (iI a)]) hc (fc_contains hl0 hCW hI h2) rfl gL_call_X4_contains rfl ⟨rfl, rfl⟩ ok_X4_contains ⟨Nat.le_of_ble_eq_true rfl, Nat.le_of_ble_eq_true rfl⟩ (Nat.le_of_ble_eq_true rfl) dL_call_138 ⟨Nat.le_of_ble_eq_true rfl, Nat.le_of_ble_eq_true rfl⟩ (fun j q9 w1 hj hW1 => ?_) (fun r σ1 w1 hok hW1 => ?_)
  · obtain ⟨rfl, hj⟩ := hj
    refine ⟨[(⟨0, 158, 159, 51⟩ : ExceptionTableEntry)], (⟨0, 158, 164, 53⟩ : ExceptionTableEntry), [(⟨0, 158, 169, 55⟩ : ExceptionTableEntry)], "java/lang/IllegalArgumentException", hT, List.forall_mem_cons.mpr ⟨⟨by decide, "java/lang/IndexOutOfBoundsException", m_L_call_c51, hG.2.1⟩, fun z hz => absurd hz List.not_mem_nil⟩, by decide, by decide, m_L_call_c53, by decide, ?_⟩
    refine V_astore hc dL_call_164 [(4, .ref q9), (0, .ref hB), (1, .int (iI 10)), (2, .int (iI a)), (3, .int (iI b))] (Nat.le_of_ble_eq_true rfl) rfl ?_
    refine V_bipush hc dL_call_166 (by decide) ?_
    refine V_widen (k1 := 2) (n1 := 12) (Nat.le_of_ble_eq_true rfl) (Nat.le_of_ble_eq_true rfl) ?_
    exact V_iret hc hr w1 ⟨σ, Or.inr ⟨1, hj, rfl, rfl⟩, hW1⟩ rfl dL_call_168
  · have hb9 := hok.2.1
    rcases hb9 with rfl | rfl
    · refine V_if_eq (tgt := 148) (X := True) (Y := False) hc dL_call_141 (by decide) ⟨by decide, fun _ => trivial, fun h => h (by decide)⟩ (fun _ => ?_) (fun h => h.elim)
      refine V_iconst hc dL_call_148 ?_
      refine V_goto (tgt := 158) hc dL_call_149 (by decide) ?_
      refine V_widen (k1 := 2) (n1 := 12) (Nat.le_of_ble_eq_true rfl) (Nat.le_of_ble_eq_true rfl) ?_
      exact V_iret hc hr w1 ⟨σ1, Or.inl hok, hW1⟩ rfl dL_call_158
    · refine V_if_eq (tgt := 148) (X := False) (Y := True) hc dL_call_141 (by decide) ⟨by decide, fun h => absurd h (by decide), fun _ => trivial⟩ (fun h => h.elim) (fun _ => ?_)
      refine V_iconst hc dL_call_144 ?_
      refine V_goto (tgt := 158) hc dL_call_145 (by decide) ?_
      refine V_widen (k1 := 2) (n1 := 12) (Nat.le_of_ble_eq_true rfl) (Nat.le_of_ble_eq_true rfl) ?_
      exact V_iret hc hr w1 ⟨σ1, Or.inl hok, hW1⟩ rfl dL_call_158
set_option maxHeartbeats 4000000 in
theorem lc_call_11 {l : Launch} (hl0 : l.stackTraces = false) {D : va_G} {t : Nat → ClassId} {hB : Nat} {σ : aW} {ws0 : va_W} (hCW : CW t hB ws0 σ) (hI : ivE σ) {a b : Int} (h2 : inR a) (h3 : inR b) : MWi l D t yL_call wsL_call rm_L_call [.ref hB, .int (iI 11), .int (iI a), .int (iI b)] ws0 idW (po_L t hB (cR (ok_near σ a b) (rf_near σ a b) xc1 σ)) 2 12 := by
  refine M_ofw (cc := cL_call) (nL := 5) (hh := [(0, 158, 159, 51), (0, 158, 164, 53), (0, 158, 169, 55)]) (by decide) rfl (Nat.le_of_ble_eq_true rfl) ?_
  intro p e s m args below meth c A hc hG hT hr
  refine V_lv [0, 1, 2, 3] [(0, .ref hB), (1, .int (iI 11)), (2, .int (iI a)), (3, .int (iI b))] rfl ?_
  refine V_iload_n hc dL_call_0 1 rfl ?_
  refine V_if_ne (tgt := 12) (X := True) (Y := False) hc dL_call_1 (by decide) ⟨by decide, fun _ => trivial, fun h => h (by decide)⟩ (fun _ => ?_) (fun h => h.elim)
  refine V_iload_n hc dL_call_12 1 rfl ?_
  refine V_iconst hc dL_call_13 ?_
  refine V_icmp_ne (tgt := 25) (X := True) (Y := False) hc dL_call_14 (by decide) ⟨by decide, by decide, fun _ => trivial, fun h => h (by decide)⟩ (fun _ => ?_) (fun h => h.elim)
  refine V_iload_n hc dL_call_25 1 rfl ?_
  refine V_iconst hc dL_call_26 ?_
  refine V_icmp_ne (tgt := 37) (X := True) (Y := False) hc dL_call_27 (by decide) ⟨by decide, by decide, fun _ => trivial, fun h => h (by decide)⟩ (fun _ => ?_) (fun h => h.elim)
  refine V_iload_n hc dL_call_37 1 rfl ?_
  refine V_iconst hc dL_call_38 ?_
  refine V_icmp_ne (tgt := 49) (X := True) (Y := False) hc dL_call_39 (by decide) ⟨by decide, by decide, fun _ => trivial, fun h => h (by decide)⟩ (fun _ => ?_) (fun h => h.elim)
  refine V_iload_n hc dL_call_49 1 rfl ?_
  refine V_iconst hc dL_call_50 ?_
  refine V_icmp_ne (tgt := 63) (X := True) (Y := False) hc dL_call_51 (by decide) ⟨by decide, by decide, fun _ => trivial, fun h => h (by decide)⟩ (fun _ => ?_) (fun h => h.elim)
  refine V_iload_n hc dL_call_63 1 rfl ?_
  refine V_iconst hc dL_call_64 ?_
  refine V_icmp_ne (tgt := 76) (X := True) (Y := False) hc dL_call_65 (by decide) ⟨by decide, by decide, fun _ => trivial, fun h => h (by decide)⟩ (fun _ => ?_) (fun h => h.elim)
  refine V_iload_n hc dL_call_76 1 rfl ?_
  refine V_bipush hc dL_call_77 (by decide) ?_
  refine V_icmp_ne (tgt := 89) (X := True) (Y := False) hc dL_call_79 (by decide) ⟨by decide, by decide, fun _ => trivial, fun h => h (by decide)⟩ (fun _ => ?_) (fun h => h.elim)
  refine V_iload_n hc dL_call_89 1 rfl ?_
  refine V_bipush hc dL_call_90 (by decide) ?_
  refine V_icmp_ne (tgt := 102) (X := True) (Y := False) hc dL_call_92 (by decide) ⟨by decide, by decide, fun _ => trivial, fun h => h (by decide)⟩ (fun _ => ?_) (fun h => h.elim)
  refine V_iload_n hc dL_call_102 1 rfl ?_
  refine V_bipush hc dL_call_103 (by decide) ?_
  refine V_icmp_ne (tgt := 116) (X := True) (Y := False) hc dL_call_105 (by decide) ⟨by decide, by decide, fun _ => trivial, fun h => h (by decide)⟩ (fun _ => ?_) (fun h => h.elim)
  refine V_iload_n hc dL_call_116 1 rfl ?_
  refine V_bipush hc dL_call_117 (by decide) ?_
  refine V_icmp_ne (tgt := 130) (X := True) (Y := False) hc dL_call_119 (by decide) ⟨by decide, by decide, fun _ => trivial, fun h => h (by decide)⟩ (fun _ => ?_) (fun h => h.elim)
  refine V_iload_n hc dL_call_130 1 rfl ?_
  refine V_bipush hc dL_call_131 (by decide) ?_
  refine V_icmp_ne (tgt := 152) (X := True) (Y := False) hc dL_call_133 (by decide) ⟨by decide, by decide, fun _ => trivial, fun h => h (by decide)⟩ (fun _ => ?_) (fun h => h.elim)
  refine V_aload_n hc dL_call_152 0 rfl ?_
  refine V_iload_n hc dL_call_153 2 rfl ?_
  refine V_iload_n hc dL_call_154 3 rfl ?_
  refine V_tc (As := [.int (iI a), .int (iI b)]) hc (fc_near hl0 hCW hI h2 h3) rfl gL_call_X4_near rfl ⟨rfl, rfl⟩ ok_X4_near ⟨Nat.le_of_ble_eq_true rfl, Nat.le_of_ble_eq_true rfl⟩ (Nat.le_of_ble_eq_true rfl) dL_call_155 ⟨Nat.le_of_ble_eq_true rfl, Nat.le_of_ble_eq_true rfl⟩ (fun j q9 w1 hj hW1 => ?_) (fun r σ1 w1 hok hW1 => ?_)
  · obtain ⟨rfl, hj⟩ := hj
    refine ⟨[(⟨0, 158, 159, 51⟩ : ExceptionTableEntry)], (⟨0, 158, 164, 53⟩ : ExceptionTableEntry), [(⟨0, 158, 169, 55⟩ : ExceptionTableEntry)], "java/lang/IllegalArgumentException", hT, List.forall_mem_cons.mpr ⟨⟨by decide, "java/lang/IndexOutOfBoundsException", m_L_call_c51, hG.2.1⟩, fun z hz => absurd hz List.not_mem_nil⟩, by decide, by decide, m_L_call_c53, by decide, ?_⟩
    refine V_astore hc dL_call_164 [(4, .ref q9), (0, .ref hB), (1, .int (iI 11)), (2, .int (iI a)), (3, .int (iI b))] (Nat.le_of_ble_eq_true rfl) rfl ?_
    refine V_bipush hc dL_call_166 (by decide) ?_
    refine V_widen (k1 := 2) (n1 := 12) (Nat.le_of_ble_eq_true rfl) (Nat.le_of_ble_eq_true rfl) ?_
    exact V_iret hc hr w1 ⟨σ, Or.inr ⟨1, hj, rfl, rfl⟩, hW1⟩ rfl dL_call_168
  · refine V_widen (k1 := 2) (n1 := 12) (Nat.le_of_ble_eq_true rfl) (Nat.le_of_ble_eq_true rfl) ?_
    exact V_iret hc hr w1 ⟨σ1, Or.inl hok, hW1⟩ rfl dL_call_158
set_option maxHeartbeats 4000000 in
theorem lc_ask_0 {l : Launch} (hl0 : l.stackTraces = false) {D : va_G} {t : Nat → ClassId} {hB : Nat} {σ : aW} {ws0 : va_W} (hCW : CW t hB ws0 σ) (hI : ivE σ) {a b : Int} (h2 : inR a) (h3 : inR b) : MWi l D t yL_ask wsL_ask rm_L_ask [.ref hB, .int (iI 0), .int (iI a), .int (iI b)] ws0 idW (po_L t hB (cR (ok_rank σ a) (rf_rank σ a) xc1 σ)) 2 12 := by
  refine M_ofw (cc := cL_ask) (nL := 5) (hh := [(0, 178, 179, 51), (0, 178, 184, 53)]) (by decide) rfl (Nat.le_of_ble_eq_true rfl) ?_
  intro p e s m args below meth c A hc hG hT hr
  refine V_lv [0, 1, 2, 3] [(0, .ref hB), (1, .int (iI 0)), (2, .int (iI a)), (3, .int (iI b))] rfl ?_
  refine V_iload_n hc dL_ask_0 1 rfl ?_
  refine V_if_ne (tgt := 12) (X := False) (Y := True) hc dL_ask_1 (by decide) ⟨by decide, fun h => absurd h (by decide), fun _ => trivial⟩ (fun h => h.elim) (fun _ => ?_)
  refine V_aload_n hc dL_ask_4 0 rfl ?_
  refine V_iload_n hc dL_ask_5 2 rfl ?_
  refine V_tc (As := [.int (iI a)]) hc (fc_rank hl0 hCW hI h2) rfl gL_ask_X4_rank rfl ⟨rfl, rfl⟩ ok_X4_rank ⟨Nat.le_of_ble_eq_true rfl, Nat.le_of_ble_eq_true rfl⟩ (Nat.le_of_ble_eq_true rfl) dL_ask_6 ⟨Nat.le_of_ble_eq_true rfl, Nat.le_of_ble_eq_true rfl⟩ (fun j q9 w1 hj hW1 => ?_) (fun r σ1 w1 hok hW1 => ?_)
  · obtain ⟨rfl, hj⟩ := hj
    refine ⟨[(⟨0, 178, 179, 51⟩ : ExceptionTableEntry)], (⟨0, 178, 184, 53⟩ : ExceptionTableEntry), [], "java/lang/IllegalArgumentException", hT, List.forall_mem_cons.mpr ⟨⟨by decide, "java/lang/IndexOutOfBoundsException", m_L_ask_c51, hG.2.1⟩, fun z hz => absurd hz List.not_mem_nil⟩, by decide, by decide, m_L_ask_c53, by decide, ?_⟩
    refine V_astore hc dL_ask_184 [(4, .ref q9), (0, .ref hB), (1, .int (iI 0)), (2, .int (iI a)), (3, .int (iI b))] (Nat.le_of_ble_eq_true rfl) rfl ?_
    refine V_bipush hc dL_ask_186 (by decide) ?_
    refine V_widen (k1 := 2) (n1 := 12) (Nat.le_of_ble_eq_true rfl) (Nat.le_of_ble_eq_true rfl) ?_
    exact V_iret hc hr w1 ⟨σ, Or.inr ⟨1, hj, rfl, rfl⟩, hW1⟩ rfl dL_ask_188
  · refine V_goto (tgt := 178) hc dL_ask_9 (by decide) ?_
    refine V_widen (k1 := 2) (n1 := 12) (Nat.le_of_ble_eq_true rfl) (Nat.le_of_ble_eq_true rfl) ?_
    exact V_iret hc hr w1 ⟨σ1, Or.inl hok, hW1⟩ rfl dL_ask_178
set_option maxHeartbeats 4000000 in
theorem lc_ask_1 {l : Launch} (hl0 : l.stackTraces = false) {D : va_G} {t : Nat → ClassId} {hB : Nat} {σ : aW} {ws0 : va_W} (hCW : CW t hB ws0 σ) (hI : ivE σ) {a b : Int} (h2 : inR a) (h3 : inR b) : MWi l D t yL_ask wsL_ask rm_L_ask [.ref hB, .int (iI 1), .int (iI a), .int (iI b)] ws0 idW (po_L t hB (cR (ok_keyAt σ a) (rf_keyAt σ a) xc1 σ)) 2 12 := by
  refine M_ofw (cc := cL_ask) (nL := 5) (hh := [(0, 178, 179, 51), (0, 178, 184, 53)]) (by decide) rfl (Nat.le_of_ble_eq_true rfl) ?_
  intro p e s m args below meth c A hc hG hT hr
  refine V_lv [0, 1, 2, 3] [(0, .ref hB), (1, .int (iI 1)), (2, .int (iI a)), (3, .int (iI b))] rfl ?_
  refine V_iload_n hc dL_ask_0 1 rfl ?_
  refine V_if_ne (tgt := 12) (X := True) (Y := False) hc dL_ask_1 (by decide) ⟨by decide, fun _ => trivial, fun h => h (by decide)⟩ (fun _ => ?_) (fun h => h.elim)
  refine V_iload_n hc dL_ask_12 1 rfl ?_
  refine V_iconst hc dL_ask_13 ?_
  refine V_icmp_ne (tgt := 25) (X := False) (Y := True) hc dL_ask_14 (by decide) ⟨by decide, by decide, fun h => absurd h (by decide), fun _ => trivial⟩ (fun h => h.elim) (fun _ => ?_)
  refine V_aload_n hc dL_ask_17 0 rfl ?_
  refine V_iload_n hc dL_ask_18 2 rfl ?_
  refine V_tc (As := [.int (iI a)]) hc (fc_keyAt hl0 hCW hI h2) rfl gL_ask_X4_keyAt rfl ⟨rfl, rfl⟩ ok_X4_keyAt ⟨Nat.le_of_ble_eq_true rfl, Nat.le_of_ble_eq_true rfl⟩ (Nat.le_of_ble_eq_true rfl) dL_ask_19 ⟨Nat.le_of_ble_eq_true rfl, Nat.le_of_ble_eq_true rfl⟩ (fun j q9 w1 hj hW1 => ?_) (fun r σ1 w1 hok hW1 => ?_)
  · obtain ⟨rfl, hj⟩ := hj
    refine ⟨[(⟨0, 178, 179, 51⟩ : ExceptionTableEntry)], (⟨0, 178, 184, 53⟩ : ExceptionTableEntry), [], "java/lang/IllegalArgumentException", hT, List.forall_mem_cons.mpr ⟨⟨by decide, "java/lang/IndexOutOfBoundsException", m_L_ask_c51, hG.2.1⟩, fun z hz => absurd hz List.not_mem_nil⟩, by decide, by decide, m_L_ask_c53, by decide, ?_⟩
    refine V_astore hc dL_ask_184 [(4, .ref q9), (0, .ref hB), (1, .int (iI 1)), (2, .int (iI a)), (3, .int (iI b))] (Nat.le_of_ble_eq_true rfl) rfl ?_
    refine V_bipush hc dL_ask_186 (by decide) ?_
    refine V_widen (k1 := 2) (n1 := 12) (Nat.le_of_ble_eq_true rfl) (Nat.le_of_ble_eq_true rfl) ?_
    exact V_iret hc hr w1 ⟨σ, Or.inr ⟨1, hj, rfl, rfl⟩, hW1⟩ rfl dL_ask_188
  · refine V_goto (tgt := 178) hc dL_ask_22 (by decide) ?_
    refine V_widen (k1 := 2) (n1 := 12) (Nat.le_of_ble_eq_true rfl) (Nat.le_of_ble_eq_true rfl) ?_
    exact V_iret hc hr w1 ⟨σ1, Or.inl hok, hW1⟩ rfl dL_ask_178
set_option maxHeartbeats 4000000 in
theorem lc_ask_2_0 {l : Launch} (hl0 : l.stackTraces = false) {D : va_G} {t : Nat → ClassId} {hB : Nat} {σ : aW} {ws0 : va_W} (hCW : CW t hB ws0 σ) (hI : ivE σ) {a : Int} (h2 : inR a) : MWi l D t yL_ask wsL_ask rm_L_ask [.ref hB, .int (iI 2), .int (iI a), .int (iI 0)] ws0 idW (po_L t hB (cR (ok_node σ 0 a 0) (rf_node σ 0 a 0) xc1 σ)) 2 12 := by
  refine M_ofw (cc := cL_ask) (nL := 5) (hh := [(0, 178, 179, 51), (0, 178, 184, 53)]) (by decide) rfl (Nat.le_of_ble_eq_true rfl) ?_
  intro p e s m args below meth c A hc hG hT hr
  refine V_lv [0, 1, 2, 3] [(0, .ref hB), (1, .int (iI 2)), (2, .int (iI a)), (3, .int (iI 0))] rfl ?_
  refine V_iload_n hc dL_ask_0 1 rfl ?_
  refine V_if_ne (tgt := 12) (X := True) (Y := False) hc dL_ask_1 (by decide) ⟨by decide, fun _ => trivial, fun h => h (by decide)⟩ (fun _ => ?_) (fun h => h.elim)
  refine V_iload_n hc dL_ask_12 1 rfl ?_
  refine V_iconst hc dL_ask_13 ?_
  refine V_icmp_ne (tgt := 25) (X := True) (Y := False) hc dL_ask_14 (by decide) ⟨by decide, by decide, fun _ => trivial, fun h => h (by decide)⟩ (fun _ => ?_) (fun h => h.elim)
  refine V_iload_n hc dL_ask_25 1 rfl ?_
  refine V_iconst hc dL_ask_26 ?_
  refine V_icmp_ne (tgt := 53) (X := False) (Y := True) hc dL_ask_27 (by decide) ⟨by decide, by decide, fun h => absurd h (by decide), fun _ => trivial⟩ (fun h => h.elim) (fun _ => ?_)
  refine V_aload_n hc dL_ask_30 0 rfl ?_
  refine V_iload_n hc dL_ask_31 3 rfl ?_
  refine V_bipush hc dL_ask_32 (by decide) ?_
  refine V_icmp_le (tgt := 41) (X := True) (Y := False) hc dL_ask_34 (by decide) ⟨by decide, by decide, fun _ => trivial, fun h => h (by decide)⟩ (fun _ => ?_) (fun h => h.elim)
  refine V_iconst hc dL_ask_41 ?_
  refine V_iload_n hc dL_ask_42 2 rfl ?_
  refine V_iload_n hc dL_ask_43 3 rfl ?_
  refine V_bipush hc dL_ask_44 (by decide) ?_
  refine V_iremL (r := 0) hc dL_ask_46 (by decide) (by decide) ?_
  refine V_tc (As := [.int (iI 0), .int (iI a), .int (iI 0)]) hc (fc_node hl0 hCW hI (by decide) h2 (by decide)) rfl gL_ask_X4_node rfl ⟨rfl, rfl⟩ ok_X4_node ⟨Nat.le_of_ble_eq_true rfl, Nat.le_of_ble_eq_true rfl⟩ (Nat.le_of_ble_eq_true rfl) dL_ask_47 ⟨Nat.le_of_ble_eq_true rfl, Nat.le_of_ble_eq_true rfl⟩ (fun j q9 w1 hj hW1 => ?_) (fun r σ1 w1 hok hW1 => ?_)
  · obtain ⟨rfl, hj⟩ := hj
    refine ⟨[(⟨0, 178, 179, 51⟩ : ExceptionTableEntry)], (⟨0, 178, 184, 53⟩ : ExceptionTableEntry), [], "java/lang/IllegalArgumentException", hT, List.forall_mem_cons.mpr ⟨⟨by decide, "java/lang/IndexOutOfBoundsException", m_L_ask_c51, hG.2.1⟩, fun z hz => absurd hz List.not_mem_nil⟩, by decide, by decide, m_L_ask_c53, by decide, ?_⟩
    refine V_astore hc dL_ask_184 [(4, .ref q9), (0, .ref hB), (1, .int (iI 2)), (2, .int (iI a)), (3, .int (iI 0))] (Nat.le_of_ble_eq_true rfl) rfl ?_
    refine V_bipush hc dL_ask_186 (by decide) ?_
    refine V_widen (k1 := 2) (n1 := 12) (Nat.le_of_ble_eq_true rfl) (Nat.le_of_ble_eq_true rfl) ?_
    exact V_iret hc hr w1 ⟨σ, Or.inr ⟨1, hj, rfl, rfl⟩, hW1⟩ rfl dL_ask_188
  · refine V_goto (tgt := 178) hc dL_ask_50 (by decide) ?_
    refine V_widen (k1 := 2) (n1 := 12) (Nat.le_of_ble_eq_true rfl) (Nat.le_of_ble_eq_true rfl) ?_
    exact V_iret hc hr w1 ⟨σ1, Or.inl hok, hW1⟩ rfl dL_ask_178
set_option maxHeartbeats 4000000 in
theorem lc_ask_2_5 {l : Launch} (hl0 : l.stackTraces = false) {D : va_G} {t : Nat → ClassId} {hB : Nat} {σ : aW} {ws0 : va_W} (hCW : CW t hB ws0 σ) (hI : ivE σ) {a : Int} (h2 : inR a) : MWi l D t yL_ask wsL_ask rm_L_ask [.ref hB, .int (iI 2), .int (iI a), .int (iI 5)] ws0 idW (po_L t hB (cR (ok_node σ 0 a 5) (rf_node σ 0 a 5) xc1 σ)) 2 12 := by
  refine M_ofw (cc := cL_ask) (nL := 5) (hh := [(0, 178, 179, 51), (0, 178, 184, 53)]) (by decide) rfl (Nat.le_of_ble_eq_true rfl) ?_
  intro p e s m args below meth c A hc hG hT hr
  refine V_lv [0, 1, 2, 3] [(0, .ref hB), (1, .int (iI 2)), (2, .int (iI a)), (3, .int (iI 5))] rfl ?_
  refine V_iload_n hc dL_ask_0 1 rfl ?_
  refine V_if_ne (tgt := 12) (X := True) (Y := False) hc dL_ask_1 (by decide) ⟨by decide, fun _ => trivial, fun h => h (by decide)⟩ (fun _ => ?_) (fun h => h.elim)
  refine V_iload_n hc dL_ask_12 1 rfl ?_
  refine V_iconst hc dL_ask_13 ?_
  refine V_icmp_ne (tgt := 25) (X := True) (Y := False) hc dL_ask_14 (by decide) ⟨by decide, by decide, fun _ => trivial, fun h => h (by decide)⟩ (fun _ => ?_) (fun h => h.elim)
  refine V_iload_n hc dL_ask_25 1 rfl ?_
  refine V_iconst hc dL_ask_26 ?_
  refine V_icmp_ne (tgt := 53) (X := False) (Y := True) hc dL_ask_27 (by decide) ⟨by decide, by decide, fun h => absurd h (by decide), fun _ => trivial⟩ (fun h => h.elim) (fun _ => ?_)
  refine V_aload_n hc dL_ask_30 0 rfl ?_
  refine V_iload_n hc dL_ask_31 3 rfl ?_
  refine V_bipush hc dL_ask_32 (by decide) ?_
  refine V_icmp_le (tgt := 41) (X := True) (Y := False) hc dL_ask_34 (by decide) ⟨by decide, by decide, fun _ => trivial, fun h => h (by decide)⟩ (fun _ => ?_) (fun h => h.elim)
  refine V_iconst hc dL_ask_41 ?_
  refine V_iload_n hc dL_ask_42 2 rfl ?_
  refine V_iload_n hc dL_ask_43 3 rfl ?_
  refine V_bipush hc dL_ask_44 (by decide) ?_
  refine V_iremL (r := 5) hc dL_ask_46 (by decide) (by decide) ?_
  refine V_tc (As := [.int (iI 0), .int (iI a), .int (iI 5)]) hc (fc_node hl0 hCW hI (by decide) h2 (by decide)) rfl gL_ask_X4_node rfl ⟨rfl, rfl⟩ ok_X4_node ⟨Nat.le_of_ble_eq_true rfl, Nat.le_of_ble_eq_true rfl⟩ (Nat.le_of_ble_eq_true rfl) dL_ask_47 ⟨Nat.le_of_ble_eq_true rfl, Nat.le_of_ble_eq_true rfl⟩ (fun j q9 w1 hj hW1 => ?_) (fun r σ1 w1 hok hW1 => ?_)
  · obtain ⟨rfl, hj⟩ := hj
    refine ⟨[(⟨0, 178, 179, 51⟩ : ExceptionTableEntry)], (⟨0, 178, 184, 53⟩ : ExceptionTableEntry), [], "java/lang/IllegalArgumentException", hT, List.forall_mem_cons.mpr ⟨⟨by decide, "java/lang/IndexOutOfBoundsException", m_L_ask_c51, hG.2.1⟩, fun z hz => absurd hz List.not_mem_nil⟩, by decide, by decide, m_L_ask_c53, by decide, ?_⟩
    refine V_astore hc dL_ask_184 [(4, .ref q9), (0, .ref hB), (1, .int (iI 2)), (2, .int (iI a)), (3, .int (iI 5))] (Nat.le_of_ble_eq_true rfl) rfl ?_
    refine V_bipush hc dL_ask_186 (by decide) ?_
    refine V_widen (k1 := 2) (n1 := 12) (Nat.le_of_ble_eq_true rfl) (Nat.le_of_ble_eq_true rfl) ?_
    exact V_iret hc hr w1 ⟨σ, Or.inr ⟨1, hj, rfl, rfl⟩, hW1⟩ rfl dL_ask_188
  · refine V_goto (tgt := 178) hc dL_ask_50 (by decide) ?_
    refine V_widen (k1 := 2) (n1 := 12) (Nat.le_of_ble_eq_true rfl) (Nat.le_of_ble_eq_true rfl) ?_
    exact V_iret hc hr w1 ⟨σ1, Or.inl hok, hW1⟩ rfl dL_ask_178
set_option maxHeartbeats 4000000 in
theorem lc_ask_2_105 {l : Launch} (hl0 : l.stackTraces = false) {D : va_G} {t : Nat → ClassId} {hB : Nat} {σ : aW} {ws0 : va_W} (hCW : CW t hB ws0 σ) (hI : ivE σ) {a : Int} (h2 : inR a) : MWi l D t yL_ask wsL_ask rm_L_ask [.ref hB, .int (iI 2), .int (iI a), .int (iI 105)] ws0 idW (po_L t hB (cR (ok_node σ 1 a 5) (rf_node σ 1 a 5) xc1 σ)) 2 12 := by
  refine M_ofw (cc := cL_ask) (nL := 5) (hh := [(0, 178, 179, 51), (0, 178, 184, 53)]) (by decide) rfl (Nat.le_of_ble_eq_true rfl) ?_
  intro p e s m args below meth c A hc hG hT hr
  refine V_lv [0, 1, 2, 3] [(0, .ref hB), (1, .int (iI 2)), (2, .int (iI a)), (3, .int (iI 105))] rfl ?_
  refine V_iload_n hc dL_ask_0 1 rfl ?_
  refine V_if_ne (tgt := 12) (X := True) (Y := False) hc dL_ask_1 (by decide) ⟨by decide, fun _ => trivial, fun h => h (by decide)⟩ (fun _ => ?_) (fun h => h.elim)
  refine V_iload_n hc dL_ask_12 1 rfl ?_
  refine V_iconst hc dL_ask_13 ?_
  refine V_icmp_ne (tgt := 25) (X := True) (Y := False) hc dL_ask_14 (by decide) ⟨by decide, by decide, fun _ => trivial, fun h => h (by decide)⟩ (fun _ => ?_) (fun h => h.elim)
  refine V_iload_n hc dL_ask_25 1 rfl ?_
  refine V_iconst hc dL_ask_26 ?_
  refine V_icmp_ne (tgt := 53) (X := False) (Y := True) hc dL_ask_27 (by decide) ⟨by decide, by decide, fun h => absurd h (by decide), fun _ => trivial⟩ (fun h => h.elim) (fun _ => ?_)
  refine V_aload_n hc dL_ask_30 0 rfl ?_
  refine V_iload_n hc dL_ask_31 3 rfl ?_
  refine V_bipush hc dL_ask_32 (by decide) ?_
  refine V_icmp_le (tgt := 41) (X := False) (Y := True) hc dL_ask_34 (by decide) ⟨by decide, by decide, fun h => absurd h (by decide), fun _ => trivial⟩ (fun h => h.elim) (fun _ => ?_)
  refine V_iconst hc dL_ask_37 ?_
  refine V_goto (tgt := 42) hc dL_ask_38 (by decide) ?_
  refine V_iload_n hc dL_ask_42 2 rfl ?_
  refine V_iload_n hc dL_ask_43 3 rfl ?_
  refine V_bipush hc dL_ask_44 (by decide) ?_
  refine V_iremL (r := 5) hc dL_ask_46 (by decide) (by decide) ?_
  refine V_tc (As := [.int (iI 1), .int (iI a), .int (iI 5)]) hc (fc_node hl0 hCW hI (by decide) h2 (by decide)) rfl gL_ask_X4_node rfl ⟨rfl, rfl⟩ ok_X4_node ⟨Nat.le_of_ble_eq_true rfl, Nat.le_of_ble_eq_true rfl⟩ (Nat.le_of_ble_eq_true rfl) dL_ask_47 ⟨Nat.le_of_ble_eq_true rfl, Nat.le_of_ble_eq_true rfl⟩ (fun j q9 w1 hj hW1 => ?_) (fun r σ1 w1 hok hW1 => ?_)
  · obtain ⟨rfl, hj⟩ := hj
    refine ⟨[(⟨0, 178, 179, 51⟩ : ExceptionTableEntry)], (⟨0, 178, 184, 53⟩ : ExceptionTableEntry), [], "java/lang/IllegalArgumentException", hT, List.forall_mem_cons.mpr ⟨⟨by decide, "java/lang/IndexOutOfBoundsException", m_L_ask_c51, hG.2.1⟩, fun z hz => absurd hz List.not_mem_nil⟩, by decide, by decide, m_L_ask_c53, by decide, ?_⟩
    refine V_astore hc dL_ask_184 [(4, .ref q9), (0, .ref hB), (1, .int (iI 2)), (2, .int (iI a)), (3, .int (iI 105))] (Nat.le_of_ble_eq_true rfl) rfl ?_
    refine V_bipush hc dL_ask_186 (by decide) ?_
    refine V_widen (k1 := 2) (n1 := 12) (Nat.le_of_ble_eq_true rfl) (Nat.le_of_ble_eq_true rfl) ?_
    exact V_iret hc hr w1 ⟨σ, Or.inr ⟨1, hj, rfl, rfl⟩, hW1⟩ rfl dL_ask_188
  · refine V_goto (tgt := 178) hc dL_ask_50 (by decide) ?_
    refine V_widen (k1 := 2) (n1 := 12) (Nat.le_of_ble_eq_true rfl) (Nat.le_of_ble_eq_true rfl) ?_
    exact V_iret hc hr w1 ⟨σ1, Or.inl hok, hW1⟩ rfl dL_ask_178
set_option maxHeartbeats 4000000 in
theorem lc_ask_2_m1 {l : Launch} (hl0 : l.stackTraces = false) {D : va_G} {t : Nat → ClassId} {hB : Nat} {σ : aW} {ws0 : va_W} (hCW : CW t hB ws0 σ) (hI : ivE σ) {a : Int} (h2 : inR a) : MWi l D t yL_ask wsL_ask rm_L_ask [.ref hB, .int (iI 2), .int (iI a), .int (iI (-1))] ws0 idW (po_L t hB (cR (ok_node σ 0 a (-1)) (rf_node σ 0 a (-1)) xc1 σ)) 2 12 := by
  refine M_ofw (cc := cL_ask) (nL := 5) (hh := [(0, 178, 179, 51), (0, 178, 184, 53)]) (by decide) rfl (Nat.le_of_ble_eq_true rfl) ?_
  intro p e s m args below meth c A hc hG hT hr
  refine V_lv [0, 1, 2, 3] [(0, .ref hB), (1, .int (iI 2)), (2, .int (iI a)), (3, .int (iI (-1)))] rfl ?_
  refine V_iload_n hc dL_ask_0 1 rfl ?_
  refine V_if_ne (tgt := 12) (X := True) (Y := False) hc dL_ask_1 (by decide) ⟨by decide, fun _ => trivial, fun h => h (by decide)⟩ (fun _ => ?_) (fun h => h.elim)
  refine V_iload_n hc dL_ask_12 1 rfl ?_
  refine V_iconst hc dL_ask_13 ?_
  refine V_icmp_ne (tgt := 25) (X := True) (Y := False) hc dL_ask_14 (by decide) ⟨by decide, by decide, fun _ => trivial, fun h => h (by decide)⟩ (fun _ => ?_) (fun h => h.elim)
  refine V_iload_n hc dL_ask_25 1 rfl ?_
  refine V_iconst hc dL_ask_26 ?_
  refine V_icmp_ne (tgt := 53) (X := False) (Y := True) hc dL_ask_27 (by decide) ⟨by decide, by decide, fun h => absurd h (by decide), fun _ => trivial⟩ (fun h => h.elim) (fun _ => ?_)
  refine V_aload_n hc dL_ask_30 0 rfl ?_
  refine V_iload_n hc dL_ask_31 3 rfl ?_
  refine V_bipush hc dL_ask_32 (by decide) ?_
  refine V_icmp_le (tgt := 41) (X := True) (Y := False) hc dL_ask_34 (by decide) ⟨by decide, by decide, fun _ => trivial, fun h => h (by decide)⟩ (fun _ => ?_) (fun h => h.elim)
  refine V_iconst hc dL_ask_41 ?_
  refine V_iload_n hc dL_ask_42 2 rfl ?_
  refine V_iload_n hc dL_ask_43 3 rfl ?_
  refine V_bipush hc dL_ask_44 (by decide) ?_
  refine V_iremL (r := (-1)) hc dL_ask_46 (by decide) (by decide) ?_
  refine V_tc (As := [.int (iI 0), .int (iI a), .int (iI (-1))]) hc (fc_node hl0 hCW hI (by decide) h2 (by decide)) rfl gL_ask_X4_node rfl ⟨rfl, rfl⟩ ok_X4_node ⟨Nat.le_of_ble_eq_true rfl, Nat.le_of_ble_eq_true rfl⟩ (Nat.le_of_ble_eq_true rfl) dL_ask_47 ⟨Nat.le_of_ble_eq_true rfl, Nat.le_of_ble_eq_true rfl⟩ (fun j q9 w1 hj hW1 => ?_) (fun r σ1 w1 hok hW1 => ?_)
  · obtain ⟨rfl, hj⟩ := hj
    refine ⟨[(⟨0, 178, 179, 51⟩ : ExceptionTableEntry)], (⟨0, 178, 184, 53⟩ : ExceptionTableEntry), [], "java/lang/IllegalArgumentException", hT, List.forall_mem_cons.mpr ⟨⟨by decide, "java/lang/IndexOutOfBoundsException", m_L_ask_c51, hG.2.1⟩, fun z hz => absurd hz List.not_mem_nil⟩, by decide, by decide, m_L_ask_c53, by decide, ?_⟩
    refine V_astore hc dL_ask_184 [(4, .ref q9), (0, .ref hB), (1, .int (iI 2)), (2, .int (iI a)), (3, .int (iI (-1)))] (Nat.le_of_ble_eq_true rfl) rfl ?_
    refine V_bipush hc dL_ask_186 (by decide) ?_
    refine V_widen (k1 := 2) (n1 := 12) (Nat.le_of_ble_eq_true rfl) (Nat.le_of_ble_eq_true rfl) ?_
    exact V_iret hc hr w1 ⟨σ, Or.inr ⟨1, hj, rfl, rfl⟩, hW1⟩ rfl dL_ask_188
  · refine V_goto (tgt := 178) hc dL_ask_50 (by decide) ?_
    refine V_widen (k1 := 2) (n1 := 12) (Nat.le_of_ble_eq_true rfl) (Nat.le_of_ble_eq_true rfl) ?_
    exact V_iret hc hr w1 ⟨σ1, Or.inl hok, hW1⟩ rfl dL_ask_178
set_option maxHeartbeats 4000000 in
theorem lc_ask_3 {l : Launch} (hl0 : l.stackTraces = false) {D : va_G} {t : Nat → ClassId} {hB : Nat} {σ : aW} {ws0 : va_W} (hCW : CW t hB ws0 σ) (hI : ivE σ) {a b : Int} (h2 : inR a) (h3 : inR b) : MWi l D t yL_ask wsL_ask rm_L_ask [.ref hB, .int (iI 3), .int (iI a), .int (iI b)] ws0 idW (po_L t hB (cR (ok_path σ a b) (rf_path σ a b) xc1 σ)) 2 12 := by
  refine M_ofw (cc := cL_ask) (nL := 5) (hh := [(0, 178, 179, 51), (0, 178, 184, 53)]) (by decide) rfl (Nat.le_of_ble_eq_true rfl) ?_
  intro p e s m args below meth c A hc hG hT hr
  refine V_lv [0, 1, 2, 3] [(0, .ref hB), (1, .int (iI 3)), (2, .int (iI a)), (3, .int (iI b))] rfl ?_
  refine V_iload_n hc dL_ask_0 1 rfl ?_
  refine V_if_ne (tgt := 12) (X := True) (Y := False) hc dL_ask_1 (by decide) ⟨by decide, fun _ => trivial, fun h => h (by decide)⟩ (fun _ => ?_) (fun h => h.elim)
  refine V_iload_n hc dL_ask_12 1 rfl ?_
  refine V_iconst hc dL_ask_13 ?_
  refine V_icmp_ne (tgt := 25) (X := True) (Y := False) hc dL_ask_14 (by decide) ⟨by decide, by decide, fun _ => trivial, fun h => h (by decide)⟩ (fun _ => ?_) (fun h => h.elim)
  refine V_iload_n hc dL_ask_25 1 rfl ?_
  refine V_iconst hc dL_ask_26 ?_
  refine V_icmp_ne (tgt := 53) (X := True) (Y := False) hc dL_ask_27 (by decide) ⟨by decide, by decide, fun _ => trivial, fun h => h (by decide)⟩ (fun _ => ?_) (fun h => h.elim)
  refine V_iload_n hc dL_ask_53 1 rfl ?_
  refine V_iconst hc dL_ask_54 ?_
  refine V_icmp_ne (tgt := 67) (X := False) (Y := True) hc dL_ask_55 (by decide) ⟨by decide, by decide, fun h => absurd h (by decide), fun _ => trivial⟩ (fun h => h.elim) (fun _ => ?_)
  refine V_aload_n hc dL_ask_58 0 rfl ?_
  refine V_iload_n hc dL_ask_59 2 rfl ?_
  refine V_iload_n hc dL_ask_60 3 rfl ?_
  refine V_tc (As := [.int (iI a), .int (iI b)]) hc (fc_path hl0 hCW hI h2 h3) rfl gL_ask_X4_path rfl ⟨rfl, rfl⟩ ok_X4_path ⟨Nat.le_of_ble_eq_true rfl, Nat.le_of_ble_eq_true rfl⟩ (Nat.le_of_ble_eq_true rfl) dL_ask_61 ⟨Nat.le_of_ble_eq_true rfl, Nat.le_of_ble_eq_true rfl⟩ (fun j q9 w1 hj hW1 => ?_) (fun r σ1 w1 hok hW1 => ?_)
  · obtain ⟨rfl, hj⟩ := hj
    refine ⟨[(⟨0, 178, 179, 51⟩ : ExceptionTableEntry)], (⟨0, 178, 184, 53⟩ : ExceptionTableEntry), [], "java/lang/IllegalArgumentException", hT, List.forall_mem_cons.mpr ⟨⟨by decide, "java/lang/IndexOutOfBoundsException", m_L_ask_c51, hG.2.1⟩, fun z hz => absurd hz List.not_mem_nil⟩, by decide, by decide, m_L_ask_c53, by decide, ?_⟩
    refine V_astore hc dL_ask_184 [(4, .ref q9), (0, .ref hB), (1, .int (iI 3)), (2, .int (iI a)), (3, .int (iI b))] (Nat.le_of_ble_eq_true rfl) rfl ?_
    refine V_bipush hc dL_ask_186 (by decide) ?_
    refine V_widen (k1 := 2) (n1 := 12) (Nat.le_of_ble_eq_true rfl) (Nat.le_of_ble_eq_true rfl) ?_
    exact V_iret hc hr w1 ⟨σ, Or.inr ⟨1, hj, rfl, rfl⟩, hW1⟩ rfl dL_ask_188
  · refine V_goto (tgt := 178) hc dL_ask_64 (by decide) ?_
    refine V_widen (k1 := 2) (n1 := 12) (Nat.le_of_ble_eq_true rfl) (Nat.le_of_ble_eq_true rfl) ?_
    exact V_iret hc hr w1 ⟨σ1, Or.inl hok, hW1⟩ rfl dL_ask_178
set_option maxHeartbeats 4000000 in
theorem lc_ask_4_0 {l : Launch} (hl0 : l.stackTraces = false) {D : va_G} {t : Nat → ClassId} {hB : Nat} {σ : aW} {ws0 : va_W} (hCW : CW t hB ws0 σ) (hI : ivE σ) {a : Int} (h2 : inR a) : MWi l D t yL_ask wsL_ask rm_L_ask [.ref hB, .int (iI 4), .int (iI a), .int (iI 0)] ws0 idW (po_L t hB (cR (ok_tree σ 0 a) (rf_tree σ 0 a) xc1 σ)) 2 12 := by
  refine M_ofw (cc := cL_ask) (nL := 5) (hh := [(0, 178, 179, 51), (0, 178, 184, 53)]) (by decide) rfl (Nat.le_of_ble_eq_true rfl) ?_
  intro p e s m args below meth c A hc hG hT hr
  refine V_lv [0, 1, 2, 3] [(0, .ref hB), (1, .int (iI 4)), (2, .int (iI a)), (3, .int (iI 0))] rfl ?_
  refine V_iload_n hc dL_ask_0 1 rfl ?_
  refine V_if_ne (tgt := 12) (X := True) (Y := False) hc dL_ask_1 (by decide) ⟨by decide, fun _ => trivial, fun h => h (by decide)⟩ (fun _ => ?_) (fun h => h.elim)
  refine V_iload_n hc dL_ask_12 1 rfl ?_
  refine V_iconst hc dL_ask_13 ?_
  refine V_icmp_ne (tgt := 25) (X := True) (Y := False) hc dL_ask_14 (by decide) ⟨by decide, by decide, fun _ => trivial, fun h => h (by decide)⟩ (fun _ => ?_) (fun h => h.elim)
  refine V_iload_n hc dL_ask_25 1 rfl ?_
  refine V_iconst hc dL_ask_26 ?_
  refine V_icmp_ne (tgt := 53) (X := True) (Y := False) hc dL_ask_27 (by decide) ⟨by decide, by decide, fun _ => trivial, fun h => h (by decide)⟩ (fun _ => ?_) (fun h => h.elim)
  refine V_iload_n hc dL_ask_53 1 rfl ?_
  refine V_iconst hc dL_ask_54 ?_
  refine V_icmp_ne (tgt := 67) (X := True) (Y := False) hc dL_ask_55 (by decide) ⟨by decide, by decide, fun _ => trivial, fun h => h (by decide)⟩ (fun _ => ?_) (fun h => h.elim)
  refine V_iload_n hc dL_ask_67 1 rfl ?_
  refine V_iconst hc dL_ask_68 ?_
  refine V_icmp_ne (tgt := 90) (X := False) (Y := True) hc dL_ask_69 (by decide) ⟨by decide, by decide, fun h => absurd h (by decide), fun _ => trivial⟩ (fun h => h.elim) (fun _ => ?_)
  refine V_aload_n hc dL_ask_72 0 rfl ?_
  refine V_iload_n hc dL_ask_73 3 rfl ?_
  refine V_iconst hc dL_ask_74 ?_
  refine V_icmp_ne (tgt := 82) (X := True) (Y := False) hc dL_ask_75 (by decide) ⟨by decide, by decide, fun _ => trivial, fun h => h (by decide)⟩ (fun _ => ?_) (fun h => h.elim)
  refine V_iconst hc dL_ask_82 ?_
  refine V_iload_n hc dL_ask_83 2 rfl ?_
  refine V_tc (As := [.int (iI 0), .int (iI a)]) hc (fc_tree hl0 hCW hI (by decide) h2) rfl gL_ask_X4_tree rfl ⟨rfl, rfl⟩ ok_X4_tree ⟨Nat.le_of_ble_eq_true rfl, Nat.le_of_ble_eq_true rfl⟩ (Nat.le_of_ble_eq_true rfl) dL_ask_84 ⟨Nat.le_of_ble_eq_true rfl, Nat.le_of_ble_eq_true rfl⟩ (fun j q9 w1 hj hW1 => ?_) (fun r σ1 w1 hok hW1 => ?_)
  · obtain ⟨rfl, hj⟩ := hj
    refine ⟨[(⟨0, 178, 179, 51⟩ : ExceptionTableEntry)], (⟨0, 178, 184, 53⟩ : ExceptionTableEntry), [], "java/lang/IllegalArgumentException", hT, List.forall_mem_cons.mpr ⟨⟨by decide, "java/lang/IndexOutOfBoundsException", m_L_ask_c51, hG.2.1⟩, fun z hz => absurd hz List.not_mem_nil⟩, by decide, by decide, m_L_ask_c53, by decide, ?_⟩
    refine V_astore hc dL_ask_184 [(4, .ref q9), (0, .ref hB), (1, .int (iI 4)), (2, .int (iI a)), (3, .int (iI 0))] (Nat.le_of_ble_eq_true rfl) rfl ?_
    refine V_bipush hc dL_ask_186 (by decide) ?_
    refine V_widen (k1 := 2) (n1 := 12) (Nat.le_of_ble_eq_true rfl) (Nat.le_of_ble_eq_true rfl) ?_
    exact V_iret hc hr w1 ⟨σ, Or.inr ⟨1, hj, rfl, rfl⟩, hW1⟩ rfl dL_ask_188
  · refine V_goto (tgt := 178) hc dL_ask_87 (by decide) ?_
    refine V_widen (k1 := 2) (n1 := 12) (Nat.le_of_ble_eq_true rfl) (Nat.le_of_ble_eq_true rfl) ?_
    exact V_iret hc hr w1 ⟨σ1, Or.inl hok, hW1⟩ rfl dL_ask_178
set_option maxHeartbeats 4000000 in
theorem lc_ask_5 {l : Launch} (hl0 : l.stackTraces = false) {D : va_G} {t : Nat → ClassId} {hB : Nat} {σ : aW} {ws0 : va_W} (hCW : CW t hB ws0 σ) (hI : ivE σ) {a b : Int} (h2 : inR a) (h3 : inR b) : MWi l D t yL_ask wsL_ask rm_L_ask [.ref hB, .int (iI 5), .int (iI a), .int (iI b)] ws0 idW (po_L t hB (cR (ok_rebuild σ a) (rf_rebuild σ a) xc1 σ)) 2 12 := by
  refine M_ofw (cc := cL_ask) (nL := 5) (hh := [(0, 178, 179, 51), (0, 178, 184, 53)]) (by decide) rfl (Nat.le_of_ble_eq_true rfl) ?_
  intro p e s m args below meth c A hc hG hT hr
  refine V_lv [0, 1, 2, 3] [(0, .ref hB), (1, .int (iI 5)), (2, .int (iI a)), (3, .int (iI b))] rfl ?_
  refine V_iload_n hc dL_ask_0 1 rfl ?_
  refine V_if_ne (tgt := 12) (X := True) (Y := False) hc dL_ask_1 (by decide) ⟨by decide, fun _ => trivial, fun h => h (by decide)⟩ (fun _ => ?_) (fun h => h.elim)
  refine V_iload_n hc dL_ask_12 1 rfl ?_
  refine V_iconst hc dL_ask_13 ?_
  refine V_icmp_ne (tgt := 25) (X := True) (Y := False) hc dL_ask_14 (by decide) ⟨by decide, by decide, fun _ => trivial, fun h => h (by decide)⟩ (fun _ => ?_) (fun h => h.elim)
  refine V_iload_n hc dL_ask_25 1 rfl ?_
  refine V_iconst hc dL_ask_26 ?_
  refine V_icmp_ne (tgt := 53) (X := True) (Y := False) hc dL_ask_27 (by decide) ⟨by decide, by decide, fun _ => trivial, fun h => h (by decide)⟩ (fun _ => ?_) (fun h => h.elim)
  refine V_iload_n hc dL_ask_53 1 rfl ?_
  refine V_iconst hc dL_ask_54 ?_
  refine V_icmp_ne (tgt := 67) (X := True) (Y := False) hc dL_ask_55 (by decide) ⟨by decide, by decide, fun _ => trivial, fun h => h (by decide)⟩ (fun _ => ?_) (fun h => h.elim)
  refine V_iload_n hc dL_ask_67 1 rfl ?_
  refine V_iconst hc dL_ask_68 ?_
  refine V_icmp_ne (tgt := 90) (X := True) (Y := False) hc dL_ask_69 (by decide) ⟨by decide, by decide, fun _ => trivial, fun h => h (by decide)⟩ (fun _ => ?_) (fun h => h.elim)
  refine V_iload_n hc dL_ask_90 1 rfl ?_
  refine V_iconst hc dL_ask_91 ?_
  refine V_icmp_ne (tgt := 103) (X := False) (Y := True) hc dL_ask_92 (by decide) ⟨by decide, by decide, fun h => absurd h (by decide), fun _ => trivial⟩ (fun h => h.elim) (fun _ => ?_)
  refine V_aload_n hc dL_ask_95 0 rfl ?_
  refine V_iload_n hc dL_ask_96 2 rfl ?_
  refine V_tc (As := [.int (iI a)]) hc (fc_rebuild hl0 hCW hI h2) rfl gL_ask_X4_rebuild rfl ⟨rfl, rfl⟩ ok_X4_rebuild ⟨Nat.le_of_ble_eq_true rfl, Nat.le_of_ble_eq_true rfl⟩ (Nat.le_of_ble_eq_true rfl) dL_ask_97 ⟨Nat.le_of_ble_eq_true rfl, Nat.le_of_ble_eq_true rfl⟩ (fun j q9 w1 hj hW1 => ?_) (fun r σ1 w1 hok hW1 => ?_)
  · obtain ⟨rfl, hj⟩ := hj
    refine ⟨[(⟨0, 178, 179, 51⟩ : ExceptionTableEntry)], (⟨0, 178, 184, 53⟩ : ExceptionTableEntry), [], "java/lang/IllegalArgumentException", hT, List.forall_mem_cons.mpr ⟨⟨by decide, "java/lang/IndexOutOfBoundsException", m_L_ask_c51, hG.2.1⟩, fun z hz => absurd hz List.not_mem_nil⟩, by decide, by decide, m_L_ask_c53, by decide, ?_⟩
    refine V_astore hc dL_ask_184 [(4, .ref q9), (0, .ref hB), (1, .int (iI 5)), (2, .int (iI a)), (3, .int (iI b))] (Nat.le_of_ble_eq_true rfl) rfl ?_
    refine V_bipush hc dL_ask_186 (by decide) ?_
    refine V_widen (k1 := 2) (n1 := 12) (Nat.le_of_ble_eq_true rfl) (Nat.le_of_ble_eq_true rfl) ?_
    exact V_iret hc hr w1 ⟨σ, Or.inr ⟨1, hj, rfl, rfl⟩, hW1⟩ rfl dL_ask_188
  · refine V_goto (tgt := 178) hc dL_ask_100 (by decide) ?_
    refine V_widen (k1 := 2) (n1 := 12) (Nat.le_of_ble_eq_true rfl) (Nat.le_of_ble_eq_true rfl) ?_
    exact V_iret hc hr w1 ⟨σ1, Or.inl hok, hW1⟩ rfl dL_ask_178
set_option maxHeartbeats 4000000 in
theorem lc_ask_6 {l : Launch} (hl0 : l.stackTraces = false) {D : va_G} {t : Nat → ClassId} {hB : Nat} {σ : aW} {ws0 : va_W} (hCW : CW t hB ws0 σ) (hI : ivE σ) {a b : Int} (h2 : inR a) (h3 : inR b) : MWi l D t yL_ask wsL_ask rm_L_ask [.ref hB, .int (iI 6), .int (iI a), .int (iI b)] ws0 idW (po_L t hB (cR (ok_queued σ a) (rf_queued σ a) xc1 σ)) 2 12 := by
  refine M_ofw (cc := cL_ask) (nL := 5) (hh := [(0, 178, 179, 51), (0, 178, 184, 53)]) (by decide) rfl (Nat.le_of_ble_eq_true rfl) ?_
  intro p e s m args below meth c A hc hG hT hr
  refine V_lv [0, 1, 2, 3] [(0, .ref hB), (1, .int (iI 6)), (2, .int (iI a)), (3, .int (iI b))] rfl ?_
  refine V_iload_n hc dL_ask_0 1 rfl ?_
  refine V_if_ne (tgt := 12) (X := True) (Y := False) hc dL_ask_1 (by decide) ⟨by decide, fun _ => trivial, fun h => h (by decide)⟩ (fun _ => ?_) (fun h => h.elim)
  refine V_iload_n hc dL_ask_12 1 rfl ?_
  refine V_iconst hc dL_ask_13 ?_
  refine V_icmp_ne (tgt := 25) (X := True) (Y := False) hc dL_ask_14 (by decide) ⟨by decide, by decide, fun _ => trivial, fun h => h (by decide)⟩ (fun _ => ?_) (fun h => h.elim)
  refine V_iload_n hc dL_ask_25 1 rfl ?_
  refine V_iconst hc dL_ask_26 ?_
  refine V_icmp_ne (tgt := 53) (X := True) (Y := False) hc dL_ask_27 (by decide) ⟨by decide, by decide, fun _ => trivial, fun h => h (by decide)⟩ (fun _ => ?_) (fun h => h.elim)
  refine V_iload_n hc dL_ask_53 1 rfl ?_
  refine V_iconst hc dL_ask_54 ?_
  refine V_icmp_ne (tgt := 67) (X := True) (Y := False) hc dL_ask_55 (by decide) ⟨by decide, by decide, fun _ => trivial, fun h => h (by decide)⟩ (fun _ => ?_) (fun h => h.elim)
  refine V_iload_n hc dL_ask_67 1 rfl ?_
  refine V_iconst hc dL_ask_68 ?_
  refine V_icmp_ne (tgt := 90) (X := True) (Y := False) hc dL_ask_69 (by decide) ⟨by decide, by decide, fun _ => trivial, fun h => h (by decide)⟩ (fun _ => ?_) (fun h => h.elim)
  refine V_iload_n hc dL_ask_90 1 rfl ?_
  refine V_iconst hc dL_ask_91 ?_
  refine V_icmp_ne (tgt := 103) (X := True) (Y := False) hc dL_ask_92 (by decide) ⟨by decide, by decide, fun _ => trivial, fun h => h (by decide)⟩ (fun _ => ?_) (fun h => h.elim)
  refine V_iload_n hc dL_ask_103 1 rfl ?_
  refine V_bipush hc dL_ask_104 (by decide) ?_
  refine V_icmp_ne (tgt := 117) (X := False) (Y := True) hc dL_ask_106 (by decide) ⟨by decide, by decide, fun h => absurd h (by decide), fun _ => trivial⟩ (fun h => h.elim) (fun _ => ?_)
  refine V_aload_n hc dL_ask_109 0 rfl ?_
  refine V_iload_n hc dL_ask_110 2 rfl ?_
  refine V_tc (As := [.int (iI a)]) hc (fc_queued hl0 hCW hI h2) rfl gL_ask_X4_queued rfl ⟨rfl, rfl⟩ ok_X4_queued ⟨Nat.le_of_ble_eq_true rfl, Nat.le_of_ble_eq_true rfl⟩ (Nat.le_of_ble_eq_true rfl) dL_ask_111 ⟨Nat.le_of_ble_eq_true rfl, Nat.le_of_ble_eq_true rfl⟩ (fun j q9 w1 hj hW1 => ?_) (fun r σ1 w1 hok hW1 => ?_)
  · obtain ⟨rfl, hj⟩ := hj
    refine ⟨[(⟨0, 178, 179, 51⟩ : ExceptionTableEntry)], (⟨0, 178, 184, 53⟩ : ExceptionTableEntry), [], "java/lang/IllegalArgumentException", hT, List.forall_mem_cons.mpr ⟨⟨by decide, "java/lang/IndexOutOfBoundsException", m_L_ask_c51, hG.2.1⟩, fun z hz => absurd hz List.not_mem_nil⟩, by decide, by decide, m_L_ask_c53, by decide, ?_⟩
    refine V_astore hc dL_ask_184 [(4, .ref q9), (0, .ref hB), (1, .int (iI 6)), (2, .int (iI a)), (3, .int (iI b))] (Nat.le_of_ble_eq_true rfl) rfl ?_
    refine V_bipush hc dL_ask_186 (by decide) ?_
    refine V_widen (k1 := 2) (n1 := 12) (Nat.le_of_ble_eq_true rfl) (Nat.le_of_ble_eq_true rfl) ?_
    exact V_iret hc hr w1 ⟨σ, Or.inr ⟨1, hj, rfl, rfl⟩, hW1⟩ rfl dL_ask_188
  · refine V_goto (tgt := 178) hc dL_ask_114 (by decide) ?_
    refine V_widen (k1 := 2) (n1 := 12) (Nat.le_of_ble_eq_true rfl) (Nat.le_of_ble_eq_true rfl) ?_
    exact V_iret hc hr w1 ⟨σ1, Or.inl hok, hW1⟩ rfl dL_ask_178
set_option maxHeartbeats 4000000 in
theorem lc_ask_7 {l : Launch} (hl0 : l.stackTraces = false) {D : va_G} {t : Nat → ClassId} {hB : Nat} {σ : aW} {ws0 : va_W} (hCW : CW t hB ws0 σ) (hI : ivE σ) {a b : Int} (h2 : inR a) (h3 : inR b) : MWi l D t yL_ask wsL_ask rm_L_ask [.ref hB, .int (iI 7), .int (iI a), .int (iI b)] ws0 idW (po_L t hB (cR (ok_count σ a) (rf_count σ a) xc1 σ)) 2 12 := by
  refine M_ofw (cc := cL_ask) (nL := 5) (hh := [(0, 178, 179, 51), (0, 178, 184, 53)]) (by decide) rfl (Nat.le_of_ble_eq_true rfl) ?_
  intro p e s m args below meth c A hc hG hT hr
  refine V_lv [0, 1, 2, 3] [(0, .ref hB), (1, .int (iI 7)), (2, .int (iI a)), (3, .int (iI b))] rfl ?_
  refine V_iload_n hc dL_ask_0 1 rfl ?_
  refine V_if_ne (tgt := 12) (X := True) (Y := False) hc dL_ask_1 (by decide) ⟨by decide, fun _ => trivial, fun h => h (by decide)⟩ (fun _ => ?_) (fun h => h.elim)
  refine V_iload_n hc dL_ask_12 1 rfl ?_
  refine V_iconst hc dL_ask_13 ?_
  refine V_icmp_ne (tgt := 25) (X := True) (Y := False) hc dL_ask_14 (by decide) ⟨by decide, by decide, fun _ => trivial, fun h => h (by decide)⟩ (fun _ => ?_) (fun h => h.elim)
  refine V_iload_n hc dL_ask_25 1 rfl ?_
  refine V_iconst hc dL_ask_26 ?_
  refine V_icmp_ne (tgt := 53) (X := True) (Y := False) hc dL_ask_27 (by decide) ⟨by decide, by decide, fun _ => trivial, fun h => h (by decide)⟩ (fun _ => ?_) (fun h => h.elim)
  refine V_iload_n hc dL_ask_53 1 rfl ?_
  refine V_iconst hc dL_ask_54 ?_
  refine V_icmp_ne (tgt := 67) (X := True) (Y := False) hc dL_ask_55 (by decide) ⟨by decide, by decide, fun _ => trivial, fun h => h (by decide)⟩ (fun _ => ?_) (fun h => h.elim)
  refine V_iload_n hc dL_ask_67 1 rfl ?_
  refine V_iconst hc dL_ask_68 ?_
  refine V_icmp_ne (tgt := 90) (X := True) (Y := False) hc dL_ask_69 (by decide) ⟨by decide, by decide, fun _ => trivial, fun h => h (by decide)⟩ (fun _ => ?_) (fun h => h.elim)
  refine V_iload_n hc dL_ask_90 1 rfl ?_
  refine V_iconst hc dL_ask_91 ?_
  refine V_icmp_ne (tgt := 103) (X := True) (Y := False) hc dL_ask_92 (by decide) ⟨by decide, by decide, fun _ => trivial, fun h => h (by decide)⟩ (fun _ => ?_) (fun h => h.elim)
  refine V_iload_n hc dL_ask_103 1 rfl ?_
  refine V_bipush hc dL_ask_104 (by decide) ?_
  refine V_icmp_ne (tgt := 117) (X := True) (Y := False) hc dL_ask_106 (by decide) ⟨by decide, by decide, fun _ => trivial, fun h => h (by decide)⟩ (fun _ => ?_) (fun h => h.elim)
  refine V_iload_n hc dL_ask_117 1 rfl ?_
  refine V_bipush hc dL_ask_118 (by decide) ?_
  refine V_icmp_ne (tgt := 131) (X := False) (Y := True) hc dL_ask_120 (by decide) ⟨by decide, by decide, fun h => absurd h (by decide), fun _ => trivial⟩ (fun h => h.elim) (fun _ => ?_)
  refine V_aload_n hc dL_ask_123 0 rfl ?_
  refine V_iload_n hc dL_ask_124 2 rfl ?_
  refine V_tc (As := [.int (iI a)]) hc (fc_count hl0 hCW hI h2) rfl gL_ask_X4_count rfl ⟨rfl, rfl⟩ ok_X4_count ⟨Nat.le_of_ble_eq_true rfl, Nat.le_of_ble_eq_true rfl⟩ (Nat.le_of_ble_eq_true rfl) dL_ask_125 ⟨Nat.le_of_ble_eq_true rfl, Nat.le_of_ble_eq_true rfl⟩ (fun j q9 w1 hj hW1 => ?_) (fun r σ1 w1 hok hW1 => ?_)
  · obtain ⟨rfl, hj⟩ := hj
    refine ⟨[(⟨0, 178, 179, 51⟩ : ExceptionTableEntry)], (⟨0, 178, 184, 53⟩ : ExceptionTableEntry), [], "java/lang/IllegalArgumentException", hT, List.forall_mem_cons.mpr ⟨⟨by decide, "java/lang/IndexOutOfBoundsException", m_L_ask_c51, hG.2.1⟩, fun z hz => absurd hz List.not_mem_nil⟩, by decide, by decide, m_L_ask_c53, by decide, ?_⟩
    refine V_astore hc dL_ask_184 [(4, .ref q9), (0, .ref hB), (1, .int (iI 7)), (2, .int (iI a)), (3, .int (iI b))] (Nat.le_of_ble_eq_true rfl) rfl ?_
    refine V_bipush hc dL_ask_186 (by decide) ?_
    refine V_widen (k1 := 2) (n1 := 12) (Nat.le_of_ble_eq_true rfl) (Nat.le_of_ble_eq_true rfl) ?_
    exact V_iret hc hr w1 ⟨σ, Or.inr ⟨1, hj, rfl, rfl⟩, hW1⟩ rfl dL_ask_188
  · refine V_goto (tgt := 178) hc dL_ask_128 (by decide) ?_
    refine V_widen (k1 := 2) (n1 := 12) (Nat.le_of_ble_eq_true rfl) (Nat.le_of_ble_eq_true rfl) ?_
    exact V_iret hc hr w1 ⟨σ1, Or.inl hok, hW1⟩ rfl dL_ask_178
set_option maxHeartbeats 4000000 in
theorem lc_ask_8 {l : Launch} (hl0 : l.stackTraces = false) {D : va_G} {t : Nat → ClassId} {hB : Nat} {σ : aW} {ws0 : va_W} (hCW : CW t hB ws0 σ) (hI : ivE σ) {a b : Int} (h2 : inR a) (h3 : inR b) : MWi l D t yL_ask wsL_ask rm_L_ask [.ref hB, .int (iI 8), .int (iI a), .int (iI b)] ws0 idW (po_L t hB (cR (ok_setting σ a) (rf_setting σ a) xc2 σ)) 2 12 := by
  refine M_ofw (cc := cL_ask) (nL := 5) (hh := [(0, 178, 179, 51), (0, 178, 184, 53)]) (by decide) rfl (Nat.le_of_ble_eq_true rfl) ?_
  intro p e s m args below meth c A hc hG hT hr
  refine V_lv [0, 1, 2, 3] [(0, .ref hB), (1, .int (iI 8)), (2, .int (iI a)), (3, .int (iI b))] rfl ?_
  refine V_iload_n hc dL_ask_0 1 rfl ?_
  refine V_if_ne (tgt := 12) (X := True) (Y := False) hc dL_ask_1 (by decide) ⟨by decide, fun _ => trivial, fun h => h (by decide)⟩ (fun _ => ?_) (fun h => h.elim)
  refine V_iload_n hc dL_ask_12 1 rfl ?_
  refine V_iconst hc dL_ask_13 ?_
  refine V_icmp_ne (tgt := 25) (X := True) (Y := False) hc dL_ask_14 (by decide) ⟨by decide, by decide, fun _ => trivial, fun h => h (by decide)⟩ (fun _ => ?_) (fun h => h.elim)
  refine V_iload_n hc dL_ask_25 1 rfl ?_
  refine V_iconst hc dL_ask_26 ?_
  refine V_icmp_ne (tgt := 53) (X := True) (Y := False) hc dL_ask_27 (by decide) ⟨by decide, by decide, fun _ => trivial, fun h => h (by decide)⟩ (fun _ => ?_) (fun h => h.elim)
  refine V_iload_n hc dL_ask_53 1 rfl ?_
  refine V_iconst hc dL_ask_54 ?_
  refine V_icmp_ne (tgt := 67) (X := True) (Y := False) hc dL_ask_55 (by decide) ⟨by decide, by decide, fun _ => trivial, fun h => h (by decide)⟩ (fun _ => ?_) (fun h => h.elim)
  refine V_iload_n hc dL_ask_67 1 rfl ?_
  refine V_iconst hc dL_ask_68 ?_
  refine V_icmp_ne (tgt := 90) (X := True) (Y := False) hc dL_ask_69 (by decide) ⟨by decide, by decide, fun _ => trivial, fun h => h (by decide)⟩ (fun _ => ?_) (fun h => h.elim)
  refine V_iload_n hc dL_ask_90 1 rfl ?_
  refine V_iconst hc dL_ask_91 ?_
  refine V_icmp_ne (tgt := 103) (X := True) (Y := False) hc dL_ask_92 (by decide) ⟨by decide, by decide, fun _ => trivial, fun h => h (by decide)⟩ (fun _ => ?_) (fun h => h.elim)
  refine V_iload_n hc dL_ask_103 1 rfl ?_
  refine V_bipush hc dL_ask_104 (by decide) ?_
  refine V_icmp_ne (tgt := 117) (X := True) (Y := False) hc dL_ask_106 (by decide) ⟨by decide, by decide, fun _ => trivial, fun h => h (by decide)⟩ (fun _ => ?_) (fun h => h.elim)
  refine V_iload_n hc dL_ask_117 1 rfl ?_
  refine V_bipush hc dL_ask_118 (by decide) ?_
  refine V_icmp_ne (tgt := 131) (X := True) (Y := False) hc dL_ask_120 (by decide) ⟨by decide, by decide, fun _ => trivial, fun h => h (by decide)⟩ (fun _ => ?_) (fun h => h.elim)
  refine V_iload_n hc dL_ask_131 1 rfl ?_
  refine V_bipush hc dL_ask_132 (by decide) ?_
  refine V_icmp_ne (tgt := 145) (X := False) (Y := True) hc dL_ask_134 (by decide) ⟨by decide, by decide, fun h => absurd h (by decide), fun _ => trivial⟩ (fun h => h.elim) (fun _ => ?_)
  refine V_aload_n hc dL_ask_137 0 rfl ?_
  refine V_iload_n hc dL_ask_138 2 rfl ?_
  refine V_tc (As := [.int (iI a)]) hc (fc_setting hl0 hCW hI h2) rfl gL_ask_X4_setting rfl ⟨rfl, rfl⟩ ok_X4_setting ⟨Nat.le_of_ble_eq_true rfl, Nat.le_of_ble_eq_true rfl⟩ (Nat.le_of_ble_eq_true rfl) dL_ask_139 ⟨Nat.le_of_ble_eq_true rfl, Nat.le_of_ble_eq_true rfl⟩ (fun j q9 w1 hj hW1 => ?_) (fun r σ1 w1 hok hW1 => ?_)
  · obtain ⟨rfl, hj⟩ := hj
    refine ⟨[], (⟨0, 178, 179, 51⟩ : ExceptionTableEntry), [(⟨0, 178, 184, 53⟩ : ExceptionTableEntry)], "java/lang/IndexOutOfBoundsException", hT, fun z hz => absurd hz List.not_mem_nil, by decide, by decide, m_L_ask_c51, by decide, ?_⟩
    refine V_astore hc dL_ask_179 [(4, .ref q9), (0, .ref hB), (1, .int (iI 8)), (2, .int (iI a)), (3, .int (iI b))] (Nat.le_of_ble_eq_true rfl) rfl ?_
    refine V_bipush hc dL_ask_181 (by decide) ?_
    refine V_widen (k1 := 2) (n1 := 12) (Nat.le_of_ble_eq_true rfl) (Nat.le_of_ble_eq_true rfl) ?_
    exact V_iret hc hr w1 ⟨σ, Or.inr ⟨1, hj, rfl, rfl⟩, hW1⟩ rfl dL_ask_183
  · refine V_goto (tgt := 178) hc dL_ask_142 (by decide) ?_
    refine V_widen (k1 := 2) (n1 := 12) (Nat.le_of_ble_eq_true rfl) (Nat.le_of_ble_eq_true rfl) ?_
    exact V_iret hc hr w1 ⟨σ1, Or.inl hok, hW1⟩ rfl dL_ask_178
set_option maxHeartbeats 4000000 in
theorem lc_ask_9 {l : Launch} (hl0 : l.stackTraces = false) {D : va_G} {t : Nat → ClassId} {hB : Nat} {σ : aW} {ws0 : va_W} (hCW : CW t hB ws0 σ) (hI : ivE σ) {a b : Int} (h2 : inR a) (h3 : inR b) : MWi l D t yL_ask wsL_ask rm_L_ask [.ref hB, .int (iI 9), .int (iI a), .int (iI b)] ws0 idW (po_L t hB (cR (ok_untilExchange σ a) (rf_untilExchange σ a) xc1 σ)) 2 12 := by
  refine M_ofw (cc := cL_ask) (nL := 5) (hh := [(0, 178, 179, 51), (0, 178, 184, 53)]) (by decide) rfl (Nat.le_of_ble_eq_true rfl) ?_
  intro p e s m args below meth c A hc hG hT hr
  refine V_lv [0, 1, 2, 3] [(0, .ref hB), (1, .int (iI 9)), (2, .int (iI a)), (3, .int (iI b))] rfl ?_
  refine V_iload_n hc dL_ask_0 1 rfl ?_
  refine V_if_ne (tgt := 12) (X := True) (Y := False) hc dL_ask_1 (by decide) ⟨by decide, fun _ => trivial, fun h => h (by decide)⟩ (fun _ => ?_) (fun h => h.elim)
  refine V_iload_n hc dL_ask_12 1 rfl ?_
  refine V_iconst hc dL_ask_13 ?_
  refine V_icmp_ne (tgt := 25) (X := True) (Y := False) hc dL_ask_14 (by decide) ⟨by decide, by decide, fun _ => trivial, fun h => h (by decide)⟩ (fun _ => ?_) (fun h => h.elim)
  refine V_iload_n hc dL_ask_25 1 rfl ?_
  refine V_iconst hc dL_ask_26 ?_
  refine V_icmp_ne (tgt := 53) (X := True) (Y := False) hc dL_ask_27 (by decide) ⟨by decide, by decide, fun _ => trivial, fun h => h (by decide)⟩ (fun _ => ?_) (fun h => h.elim)
  refine V_iload_n hc dL_ask_53 1 rfl ?_
  refine V_iconst hc dL_ask_54 ?_
  refine V_icmp_ne (tgt := 67) (X := True) (Y := False) hc dL_ask_55 (by decide) ⟨by decide, by decide, fun _ => trivial, fun h => h (by decide)⟩ (fun _ => ?_) (fun h => h.elim)
  refine V_iload_n hc dL_ask_67 1 rfl ?_
  refine V_iconst hc dL_ask_68 ?_
  refine V_icmp_ne (tgt := 90) (X := True) (Y := False) hc dL_ask_69 (by decide) ⟨by decide, by decide, fun _ => trivial, fun h => h (by decide)⟩ (fun _ => ?_) (fun h => h.elim)
  refine V_iload_n hc dL_ask_90 1 rfl ?_
  refine V_iconst hc dL_ask_91 ?_
  refine V_icmp_ne (tgt := 103) (X := True) (Y := False) hc dL_ask_92 (by decide) ⟨by decide, by decide, fun _ => trivial, fun h => h (by decide)⟩ (fun _ => ?_) (fun h => h.elim)
  refine V_iload_n hc dL_ask_103 1 rfl ?_
  refine V_bipush hc dL_ask_104 (by decide) ?_
  refine V_icmp_ne (tgt := 117) (X := True) (Y := False) hc dL_ask_106 (by decide) ⟨by decide, by decide, fun _ => trivial, fun h => h (by decide)⟩ (fun _ => ?_) (fun h => h.elim)
  refine V_iload_n hc dL_ask_117 1 rfl ?_
  refine V_bipush hc dL_ask_118 (by decide) ?_
  refine V_icmp_ne (tgt := 131) (X := True) (Y := False) hc dL_ask_120 (by decide) ⟨by decide, by decide, fun _ => trivial, fun h => h (by decide)⟩ (fun _ => ?_) (fun h => h.elim)
  refine V_iload_n hc dL_ask_131 1 rfl ?_
  refine V_bipush hc dL_ask_132 (by decide) ?_
  refine V_icmp_ne (tgt := 145) (X := True) (Y := False) hc dL_ask_134 (by decide) ⟨by decide, by decide, fun _ => trivial, fun h => h (by decide)⟩ (fun _ => ?_) (fun h => h.elim)
  refine V_iload_n hc dL_ask_145 1 rfl ?_
  refine V_bipush hc dL_ask_146 (by decide) ?_
  refine V_icmp_ne (tgt := 159) (X := False) (Y := True) hc dL_ask_148 (by decide) ⟨by decide, by decide, fun h => absurd h (by decide), fun _ => trivial⟩ (fun h => h.elim) (fun _ => ?_)
  refine V_aload_n hc dL_ask_151 0 rfl ?_
  refine V_iload_n hc dL_ask_152 2 rfl ?_
  refine V_tc (As := [.int (iI a)]) hc (fc_untilExchange hl0 hCW hI h2) rfl gL_ask_X4_untilExchange rfl ⟨rfl, rfl⟩ ok_X4_untilExchange ⟨Nat.le_of_ble_eq_true rfl, Nat.le_of_ble_eq_true rfl⟩ (Nat.le_of_ble_eq_true rfl) dL_ask_153 ⟨Nat.le_of_ble_eq_true rfl, Nat.le_of_ble_eq_true rfl⟩ (fun j q9 w1 hj hW1 => ?_) (fun r σ1 w1 hok hW1 => ?_)
  · obtain ⟨rfl, hj⟩ := hj
    refine ⟨[(⟨0, 178, 179, 51⟩ : ExceptionTableEntry)], (⟨0, 178, 184, 53⟩ : ExceptionTableEntry), [], "java/lang/IllegalArgumentException", hT, List.forall_mem_cons.mpr ⟨⟨by decide, "java/lang/IndexOutOfBoundsException", m_L_ask_c51, hG.2.1⟩, fun z hz => absurd hz List.not_mem_nil⟩, by decide, by decide, m_L_ask_c53, by decide, ?_⟩
    refine V_astore hc dL_ask_184 [(4, .ref q9), (0, .ref hB), (1, .int (iI 9)), (2, .int (iI a)), (3, .int (iI b))] (Nat.le_of_ble_eq_true rfl) rfl ?_
    refine V_bipush hc dL_ask_186 (by decide) ?_
    refine V_widen (k1 := 2) (n1 := 12) (Nat.le_of_ble_eq_true rfl) (Nat.le_of_ble_eq_true rfl) ?_
    exact V_iret hc hr w1 ⟨σ, Or.inr ⟨1, hj, rfl, rfl⟩, hW1⟩ rfl dL_ask_188
  · refine V_goto (tgt := 178) hc dL_ask_156 (by decide) ?_
    refine V_widen (k1 := 2) (n1 := 12) (Nat.le_of_ble_eq_true rfl) (Nat.le_of_ble_eq_true rfl) ?_
    exact V_iret hc hr w1 ⟨σ1, Or.inl hok, hW1⟩ rfl dL_ask_178
set_option maxHeartbeats 4000000 in
theorem lc_ask_10 {l : Launch} (hl0 : l.stackTraces = false) {D : va_G} {t : Nat → ClassId} {hB : Nat} {σ : aW} {ws0 : va_W} (hCW : CW t hB ws0 σ) (hI : ivE σ) {a b : Int} (h2 : inR a) (h3 : inR b) : MWi l D t yL_ask wsL_ask rm_L_ask [.ref hB, .int (iI 10), .int (iI a), .int (iI b)] ws0 idW (po_L t hB (cR (ok_longest σ a) (rf_longest σ a) xc1 σ)) 2 12 := by
  refine M_ofw (cc := cL_ask) (nL := 5) (hh := [(0, 178, 179, 51), (0, 178, 184, 53)]) (by decide) rfl (Nat.le_of_ble_eq_true rfl) ?_
  intro p e s m args below meth c A hc hG hT hr
  refine V_lv [0, 1, 2, 3] [(0, .ref hB), (1, .int (iI 10)), (2, .int (iI a)), (3, .int (iI b))] rfl ?_
  refine V_iload_n hc dL_ask_0 1 rfl ?_
  refine V_if_ne (tgt := 12) (X := True) (Y := False) hc dL_ask_1 (by decide) ⟨by decide, fun _ => trivial, fun h => h (by decide)⟩ (fun _ => ?_) (fun h => h.elim)
  refine V_iload_n hc dL_ask_12 1 rfl ?_
  refine V_iconst hc dL_ask_13 ?_
  refine V_icmp_ne (tgt := 25) (X := True) (Y := False) hc dL_ask_14 (by decide) ⟨by decide, by decide, fun _ => trivial, fun h => h (by decide)⟩ (fun _ => ?_) (fun h => h.elim)
  refine V_iload_n hc dL_ask_25 1 rfl ?_
  refine V_iconst hc dL_ask_26 ?_
  refine V_icmp_ne (tgt := 53) (X := True) (Y := False) hc dL_ask_27 (by decide) ⟨by decide, by decide, fun _ => trivial, fun h => h (by decide)⟩ (fun _ => ?_) (fun h => h.elim)
  refine V_iload_n hc dL_ask_53 1 rfl ?_
  refine V_iconst hc dL_ask_54 ?_
  refine V_icmp_ne (tgt := 67) (X := True) (Y := False) hc dL_ask_55 (by decide) ⟨by decide, by decide, fun _ => trivial, fun h => h (by decide)⟩ (fun _ => ?_) (fun h => h.elim)
  refine V_iload_n hc dL_ask_67 1 rfl ?_
  refine V_iconst hc dL_ask_68 ?_
  refine V_icmp_ne (tgt := 90) (X := True) (Y := False) hc dL_ask_69 (by decide) ⟨by decide, by decide, fun _ => trivial, fun h => h (by decide)⟩ (fun _ => ?_) (fun h => h.elim)
  refine V_iload_n hc dL_ask_90 1 rfl ?_
  refine V_iconst hc dL_ask_91 ?_
  refine V_icmp_ne (tgt := 103) (X := True) (Y := False) hc dL_ask_92 (by decide) ⟨by decide, by decide, fun _ => trivial, fun h => h (by decide)⟩ (fun _ => ?_) (fun h => h.elim)
  refine V_iload_n hc dL_ask_103 1 rfl ?_
  refine V_bipush hc dL_ask_104 (by decide) ?_
  refine V_icmp_ne (tgt := 117) (X := True) (Y := False) hc dL_ask_106 (by decide) ⟨by decide, by decide, fun _ => trivial, fun h => h (by decide)⟩ (fun _ => ?_) (fun h => h.elim)
  refine V_iload_n hc dL_ask_117 1 rfl ?_
  refine V_bipush hc dL_ask_118 (by decide) ?_
  refine V_icmp_ne (tgt := 131) (X := True) (Y := False) hc dL_ask_120 (by decide) ⟨by decide, by decide, fun _ => trivial, fun h => h (by decide)⟩ (fun _ => ?_) (fun h => h.elim)
  refine V_iload_n hc dL_ask_131 1 rfl ?_
  refine V_bipush hc dL_ask_132 (by decide) ?_
  refine V_icmp_ne (tgt := 145) (X := True) (Y := False) hc dL_ask_134 (by decide) ⟨by decide, by decide, fun _ => trivial, fun h => h (by decide)⟩ (fun _ => ?_) (fun h => h.elim)
  refine V_iload_n hc dL_ask_145 1 rfl ?_
  refine V_bipush hc dL_ask_146 (by decide) ?_
  refine V_icmp_ne (tgt := 159) (X := True) (Y := False) hc dL_ask_148 (by decide) ⟨by decide, by decide, fun _ => trivial, fun h => h (by decide)⟩ (fun _ => ?_) (fun h => h.elim)
  refine V_iload_n hc dL_ask_159 1 rfl ?_
  refine V_bipush hc dL_ask_160 (by decide) ?_
  refine V_icmp_ne (tgt := 173) (X := False) (Y := True) hc dL_ask_162 (by decide) ⟨by decide, by decide, fun h => absurd h (by decide), fun _ => trivial⟩ (fun h => h.elim) (fun _ => ?_)
  refine V_aload_n hc dL_ask_165 0 rfl ?_
  refine V_iload_n hc dL_ask_166 2 rfl ?_
  refine V_tc (As := [.int (iI a)]) hc (fc_longest hl0 hCW hI h2) rfl gL_ask_X4_longest rfl ⟨rfl, rfl⟩ ok_X4_longest ⟨Nat.le_of_ble_eq_true rfl, Nat.le_of_ble_eq_true rfl⟩ (Nat.le_of_ble_eq_true rfl) dL_ask_167 ⟨Nat.le_of_ble_eq_true rfl, Nat.le_of_ble_eq_true rfl⟩ (fun j q9 w1 hj hW1 => ?_) (fun r σ1 w1 hok hW1 => ?_)
  · obtain ⟨rfl, hj⟩ := hj
    refine ⟨[(⟨0, 178, 179, 51⟩ : ExceptionTableEntry)], (⟨0, 178, 184, 53⟩ : ExceptionTableEntry), [], "java/lang/IllegalArgumentException", hT, List.forall_mem_cons.mpr ⟨⟨by decide, "java/lang/IndexOutOfBoundsException", m_L_ask_c51, hG.2.1⟩, fun z hz => absurd hz List.not_mem_nil⟩, by decide, by decide, m_L_ask_c53, by decide, ?_⟩
    refine V_astore hc dL_ask_184 [(4, .ref q9), (0, .ref hB), (1, .int (iI 10)), (2, .int (iI a)), (3, .int (iI b))] (Nat.le_of_ble_eq_true rfl) rfl ?_
    refine V_bipush hc dL_ask_186 (by decide) ?_
    refine V_widen (k1 := 2) (n1 := 12) (Nat.le_of_ble_eq_true rfl) (Nat.le_of_ble_eq_true rfl) ?_
    exact V_iret hc hr w1 ⟨σ, Or.inr ⟨1, hj, rfl, rfl⟩, hW1⟩ rfl dL_ask_188
  · refine V_goto (tgt := 178) hc dL_ask_170 (by decide) ?_
    refine V_widen (k1 := 2) (n1 := 12) (Nat.le_of_ble_eq_true rfl) (Nat.le_of_ble_eq_true rfl) ?_
    exact V_iret hc hr w1 ⟨σ1, Or.inl hok, hW1⟩ rfl dL_ask_178
set_option maxHeartbeats 4000000 in
theorem lc_ask_11 {l : Launch} (hl0 : l.stackTraces = false) {D : va_G} {t : Nat → ClassId} {hB : Nat} {σ : aW} {ws0 : va_W} (hCW : CW t hB ws0 σ) (hI : ivE σ) {a b : Int} (h2 : inR a) (h3 : inR b) : MWi l D t yL_ask wsL_ask rm_L_ask [.ref hB, .int (iI 11), .int (iI a), .int (iI b)] ws0 idW (po_L t hB (cR (ok_leastSpeed σ a) (rf_leastSpeed σ a) xc1 σ)) 2 12 := by
  refine M_ofw (cc := cL_ask) (nL := 5) (hh := [(0, 178, 179, 51), (0, 178, 184, 53)]) (by decide) rfl (Nat.le_of_ble_eq_true rfl) ?_
  intro p e s m args below meth c A hc hG hT hr
  refine V_lv [0, 1, 2, 3] [(0, .ref hB), (1, .int (iI 11)), (2, .int (iI a)), (3, .int (iI b))] rfl ?_
  refine V_iload_n hc dL_ask_0 1 rfl ?_
  refine V_if_ne (tgt := 12) (X := True) (Y := False) hc dL_ask_1 (by decide) ⟨by decide, fun _ => trivial, fun h => h (by decide)⟩ (fun _ => ?_) (fun h => h.elim)
  refine V_iload_n hc dL_ask_12 1 rfl ?_
  refine V_iconst hc dL_ask_13 ?_
  refine V_icmp_ne (tgt := 25) (X := True) (Y := False) hc dL_ask_14 (by decide) ⟨by decide, by decide, fun _ => trivial, fun h => h (by decide)⟩ (fun _ => ?_) (fun h => h.elim)
  refine V_iload_n hc dL_ask_25 1 rfl ?_
  refine V_iconst hc dL_ask_26 ?_
  refine V_icmp_ne (tgt := 53) (X := True) (Y := False) hc dL_ask_27 (by decide) ⟨by decide, by decide, fun _ => trivial, fun h => h (by decide)⟩ (fun _ => ?_) (fun h => h.elim)
  refine V_iload_n hc dL_ask_53 1 rfl ?_
  refine V_iconst hc dL_ask_54 ?_
  refine V_icmp_ne (tgt := 67) (X := True) (Y := False) hc dL_ask_55 (by decide) ⟨by decide, by decide, fun _ => trivial, fun h => h (by decide)⟩ (fun _ => ?_) (fun h => h.elim)
  refine V_iload_n hc dL_ask_67 1 rfl ?_
  refine V_iconst hc dL_ask_68 ?_
  refine V_icmp_ne (tgt := 90) (X := True) (Y := False) hc dL_ask_69 (by decide) ⟨by decide, by decide, fun _ => trivial, fun h => h (by decide)⟩ (fun _ => ?_) (fun h => h.elim)
  refine V_iload_n hc dL_ask_90 1 rfl ?_
  refine V_iconst hc dL_ask_91 ?_
  refine V_icmp_ne (tgt := 103) (X := True) (Y := False) hc dL_ask_92 (by decide) ⟨by decide, by decide, fun _ => trivial, fun h => h (by decide)⟩ (fun _ => ?_) (fun h => h.elim)
  refine V_iload_n hc dL_ask_103 1 rfl ?_
  refine V_bipush hc dL_ask_104 (by decide) ?_
  refine V_icmp_ne (tgt := 117) (X := True) (Y := False) hc dL_ask_106 (by decide) ⟨by decide, by decide, fun _ => trivial, fun h => h (by decide)⟩ (fun _ => ?_) (fun h => h.elim)
  refine V_iload_n hc dL_ask_117 1 rfl ?_
  refine V_bipush hc dL_ask_118 (by decide) ?_
  refine V_icmp_ne (tgt := 131) (X := True) (Y := False) hc dL_ask_120 (by decide) ⟨by decide, by decide, fun _ => trivial, fun h => h (by decide)⟩ (fun _ => ?_) (fun h => h.elim)
  refine V_iload_n hc dL_ask_131 1 rfl ?_
  refine V_bipush hc dL_ask_132 (by decide) ?_
  refine V_icmp_ne (tgt := 145) (X := True) (Y := False) hc dL_ask_134 (by decide) ⟨by decide, by decide, fun _ => trivial, fun h => h (by decide)⟩ (fun _ => ?_) (fun h => h.elim)
  refine V_iload_n hc dL_ask_145 1 rfl ?_
  refine V_bipush hc dL_ask_146 (by decide) ?_
  refine V_icmp_ne (tgt := 159) (X := True) (Y := False) hc dL_ask_148 (by decide) ⟨by decide, by decide, fun _ => trivial, fun h => h (by decide)⟩ (fun _ => ?_) (fun h => h.elim)
  refine V_iload_n hc dL_ask_159 1 rfl ?_
  refine V_bipush hc dL_ask_160 (by decide) ?_
  refine V_icmp_ne (tgt := 173) (X := True) (Y := False) hc dL_ask_162 (by decide) ⟨by decide, by decide, fun _ => trivial, fun h => h (by decide)⟩ (fun _ => ?_) (fun h => h.elim)
  refine V_aload_n hc dL_ask_173 0 rfl ?_
  refine V_iload_n hc dL_ask_174 2 rfl ?_
  refine V_tc (As := [.int (iI a)]) hc (fc_leastSpeed hl0 hCW hI h2) rfl gL_ask_X4_leastSpeed rfl ⟨rfl, rfl⟩ ok_X4_leastSpeed ⟨Nat.le_of_ble_eq_true rfl, Nat.le_of_ble_eq_true rfl⟩ (Nat.le_of_ble_eq_true rfl) dL_ask_175 ⟨Nat.le_of_ble_eq_true rfl, Nat.le_of_ble_eq_true rfl⟩ (fun j q9 w1 hj hW1 => ?_) (fun r σ1 w1 hok hW1 => ?_)
  · obtain ⟨rfl, hj⟩ := hj
    refine ⟨[(⟨0, 178, 179, 51⟩ : ExceptionTableEntry)], (⟨0, 178, 184, 53⟩ : ExceptionTableEntry), [], "java/lang/IllegalArgumentException", hT, List.forall_mem_cons.mpr ⟨⟨by decide, "java/lang/IndexOutOfBoundsException", m_L_ask_c51, hG.2.1⟩, fun z hz => absurd hz List.not_mem_nil⟩, by decide, by decide, m_L_ask_c53, by decide, ?_⟩
    refine V_astore hc dL_ask_184 [(4, .ref q9), (0, .ref hB), (1, .int (iI 11)), (2, .int (iI a)), (3, .int (iI b))] (Nat.le_of_ble_eq_true rfl) rfl ?_
    refine V_bipush hc dL_ask_186 (by decide) ?_
    refine V_widen (k1 := 2) (n1 := 12) (Nat.le_of_ble_eq_true rfl) (Nat.le_of_ble_eq_true rfl) ?_
    exact V_iret hc hr w1 ⟨σ, Or.inr ⟨1, hj, rfl, rfl⟩, hW1⟩ rfl dL_ask_188
  · refine V_widen (k1 := 2) (n1 := 12) (Nat.le_of_ble_eq_true rfl) (Nat.le_of_ble_eq_true rfl) ?_
    exact V_iret hc hr w1 ⟨σ1, Or.inl hok, hW1⟩ rfl dL_ask_178
