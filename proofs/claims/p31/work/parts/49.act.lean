/-! act -/
theorem cn_0 {A : aS} {S : List aS} {X : List Int} : ab_cn A S X 0 = as_N A 0 := by
  unfold ab_cn
  rw [if_pos (by decide)]
  rfl
theorem cn_1 {A : aS} {S : List aS} {X : List Int} : ab_cn A S X 1 = as_N A 1 := by
  unfold ab_cn
  rw [if_pos (by decide)]
  rfl
theorem cn_2 {A : aS} {S : List aS} {X : List Int} : ab_cn A S X 2 = as_N A 2 := by
  unfold ab_cn
  rw [if_pos (by decide)]
  rfl
theorem cn_3 {A : aS} {S : List aS} {X : List Int} : ab_cn A S X 3 = as_N A 3 := by
  unfold ab_cn
  rw [if_pos (by decide)]
  rfl
theorem cn_4 {A : aS} {S : List aS} {X : List Int} : ab_cn A S X 4 = as_N A 4 := by
  unfold ab_cn
  rw [if_pos (by decide)]
  rfl
theorem cn_5 {A : aS} {S : List aS} {X : List Int} : ab_cn A S X 5 = as_N A 5 := by
  unfold ab_cn
  rw [if_pos (by decide)]
  rfl
theorem cn_6 {A : aS} {S : List aS} {X : List Int} : ab_cn A S X 6 = as_N A 6 := by
  unfold ab_cn
  rw [if_pos (by decide)]
  rfl
/-- what act may answer, and what it leaves -/
def aP (σ : aW) (r : Int) (σ1 : aW) : Prop := (-99 < r ∧ inR r) ∧ ((r ≤ -10 ∧ σ1 = σ) ∨ (-10 < r ∧ ∃ B, σ1 = sB σ B ∧ jr_I B ∧ (as_T B).1.length ≤ (as_T σ.1).1.length + 1 ∧ ivE (sB σ B)))
theorem aP_R {σ : aW} {r : Int} (h : -99 < r ∧ r ≤ -10) : aP σ r σ := ⟨⟨h.1, by omega⟩, Or.inl ⟨h.2, rfl⟩⟩
theorem aP_K {σ : aW} {r : Int} {B : aS} (h : -10 < r ∧ r ≤ 2000) (hj : jr_I B) (hl : (as_T B).1.length ≤ (as_T σ.1).1.length + 1) (hi : ivE (sB σ B)) : aP σ r (sB σ B) := ⟨⟨by omega, by omega⟩, Or.inr ⟨h.1, B, rfl, hj, hl, hi⟩⟩
theorem E_rng {σ : aW} (h : ivE σ) {s : Int} (hs : 0 ≤ s ∧ s < 3) : 1 ≤ as_E σ.1 s.toNat ∧ as_E σ.1 s.toNat ≤ 100 := by
  obtain ⟨b, h⟩ := h
  have h9 := h.1.2.2.2.2.2.1
  rcases (show s = 0 ∨ s = 1 ∨ s = 2 by omega) with rfl | rfl | rfl
  · show 1 ≤ as_E σ.1 0 ∧ as_E σ.1 0 ≤ 100
    omega
  · show 1 ≤ as_E σ.1 1 ∧ as_E σ.1 1 ≤ 100
    omega
  · show 1 ≤ as_E σ.1 2 ∧ as_E σ.1 2 ≤ 100
    omega
theorem ac_add {σ : aW} (hI : ivE σ) (hJ : jr_I σ.1) {key : Int} (hk : kyR key) (hr : ab_room1 (as_T σ.1) key) : jr_I (ab_act σ.1 key).2 ∧ ab_pres (as_T (ab_act σ.1 key).2) key ∧ (as_T (ab_act σ.1 key).2).1.length ≤ (as_T σ.1).1.length + 1 := by
  obtain ⟨b, hI⟩ := hI
  obtain ⟨h1, h2, h3⟩ := jr_act hJ hI.1 (a := key) (Or.inr (Or.inl ⟨hk.1, hk.2, hr⟩))
  refine ⟨h1, (h2 (by omega) key hk.1 hk.2).mpr ?_, h3⟩
  unfold jr_s
  rw [if_pos hk.2]
  exact Or.inl rfl
theorem ac_rem {σ : aW} (hI : ivE σ) (hJ : jr_I σ.1) {key : Int} (hk : kyR key) : jr_I (ab_act σ.1 (key + 500)).2 ∧ ¬ ab_pres (as_T (ab_act σ.1 (key + 500)).2) key ∧ (as_T (ab_act σ.1 (key + 500)).2).1.length ≤ (as_T σ.1).1.length + 1 := by
  obtain ⟨b, hI⟩ := hI
  obtain ⟨h1, h2, h3⟩ := jr_act hJ hI.1 (a := key + 500) (Or.inr (Or.inr ⟨by omega, by omega⟩))
  refine ⟨h1, fun q => ?_, h3⟩
  have q2 := (h2 (by omega) key hk.1 hk.2).mp q
  unfold jr_s at q2
  rw [if_neg (by omega)] at q2
  exact q2.1 (by omega)
theorem ac_idle {σ : aW} (hI : ivE σ) (hJ : jr_I σ.1) : jr_I (ab_act σ.1 (-1)).2 ∧ (as_T (ab_act σ.1 (-1)).2).1.length ≤ (as_T σ.1).1.length + 1 ∧ (0 ≤ (ab_act σ.1 (-1)).1 ∧ (ab_act σ.1 (-1)).1 ≤ 1080) ∧ (as_N (ab_act σ.1 (-1)).2 0 = (ab_act σ.1 (-1)).1 ∧ as_N (ab_act σ.1 (-1)).2 3 = as_N σ.1 3 + 1 ∧ as_N (ab_act σ.1 (-1)).2 2 = as_N σ.1 2 + (ab_act σ.1 (-1)).1 ∧ (ab_act σ.1 (-1)).1 ≤ as_N (ab_act σ.1 (-1)).2 1 ∧ as_N (ab_act σ.1 (-1)).2 1 ≤ 2000) := by
  obtain ⟨b, hI⟩ := hI
  obtain ⟨h1, h2, h3⟩ := jr_act hJ hI.1 (a := -1) (Or.inl rfl)
  obtain ⟨i1, i2, i3⟩ := ab_I_act hI.1 (a := -1) (Or.inl rfl)
  obtain ⟨n1, n2, n3, n4⟩ := jr_idle_N hI.1
  exact ⟨h1, h3, i2, n1, n2, n3, n4, i1.2.2.2.2.2.2.2.1.2⟩
abbrev rm_L_act : Room := { frames := 9, cells := 8, slots := 48, locals := 224 }
theorem ivE.C {σ : aW} (h : ivE σ) : as_C σ.1 ≤ 120 := by
  obtain ⟨b, h⟩ := h
  have h9 := h.1.2.2.1
  omega
set_option maxHeartbeats 16000000 in
theorem lm_act {l : Launch} (hl0 : l.stackTraces = false) {D : va_G} {t : Nat → ClassId} {hB : Nat} {σ : aW} {ws0 : va_W} (hCW : CW t hB ws0 σ) (hI : ivE σ) (hJ : jr_I σ.1) (hln : (as_T σ.1).1.length < 120) {x : Int} (hx : 0 ≤ x ∧ x ≤ 2147483647) : MWi l D t yL_act wsL_act rm_L_act [.ref hB, .int (iI x)] ws0 idW (po_L t hB (aP σ)) 8 48 := by
  refine M_ofgi (cc := cL_act) (nL := 8) (by decide) rfl (Nat.le_of_ble_eq_true rfl) ?_
  intro p e s m args below meth c A hc hG hr
  have M36 : ∀ (key : Int), kyR key → V p l e rm_L_act s m args below meth c D A 8 0 0 (MQ below (QI D A idW (po_L t hB (aP σ))) args s 8 48 A) 36 [(0, .ref hB), (1, .int (iI x)), (2, .int (iI (x % 16))), (3, .int (iI (x / 16))), (4, .int (iI key))] [] ws0 := by
    intro key hk
    have hroom : ab_room1 (as_T σ.1) key := Or.inr hln
    have hh16 : 0 ≤ x % 16 ∧ x % 16 < 16 := by omega
    have hx16 : 0 ≤ x / 16 ∧ x / 16 ≤ 2147483647 := by omega
    by_cases c7 : x % 16 < 7
    · by_cases hp : ab_pres (as_T σ.1) key
      · obtain ⟨a1, a2, a3⟩ := ac_add hI hJ hk hroom
        refine V_iload_n hc dL_act_36 2 rfl ?_
        refine V_bipush hc dL_act_37 (by decide) ?_
        refine V_icmp_ge (tgt := 88) (X := False) (Y := True) hc dL_act_39 (by decide) ⟨by omega, by decide, fun h => absurd h (by omega), fun _ => trivial⟩ (fun h => h.elim) (fun _ => ?_)
        refine V_aload_n hc dL_act_42 0 rfl ?_
        refine V_iload hc dL_act_43 4 rfl ?_
        refine V_fd (As := [.int (iI key)]) hc (fc_contains hl0 hCW hI (by omega)) (fun j h9 => h9.2.1 hk) 1 σ (fun r σ2 h9 => ⟨h9.2.2.1.mpr hp, h9.2.2.2⟩) rfl gL_act_X4_contains rfl ⟨rfl, rfl⟩ ok_X4_contains ⟨Nat.le_of_ble_eq_true rfl, Nat.le_of_ble_eq_true rfl⟩ (Nat.le_of_ble_eq_true rfl) dL_act_45 ⟨Nat.le_of_ble_eq_true rfl, Nat.le_of_ble_eq_true rfl⟩ (fun w1 hW1 => ?_)
        refine V_if_eq (tgt := 55) (X := False) (Y := True) hc dL_act_48 (by decide) ⟨by decide, fun h => absurd h (by decide), fun _ => trivial⟩ (fun h => h.elim) (fun _ => ?_)
        refine V_iconst hc dL_act_51 ?_
        refine V_goto (tgt := 56) hc dL_act_52 (by decide) ?_
        refine V_istore hc dL_act_56 [(5, .int (iI 0)), (0, .ref hB), (1, .int (iI x)), (2, .int (iI (x % 16))), (3, .int (iI (x / 16))), (4, .int (iI key))] (Nat.le_of_ble_eq_true rfl) rfl ?_
        refine V_aload_n hc dL_act_58 1 rfl ?_
        refine V_iconst hc dL_act_59 ?_
        refine V_iload hc dL_act_60 5 rfl ?_
        refine V_iconst hc dL_act_62 ?_
        refine V_lc (As := [.ref hB, .int (iI 0), .int (iI key), .int (iI 0)]) (hh := [(0, 158, 159, 51), (0, 158, 164, 53), (0, 158, 169, 55)]) hc hG (lc_call_0 hl0 hW1 hI (by omega) (by decide)) 0 (sB σ (ab_act σ.1 key).2) (dk_add0 hk hroom hp) rfl gL_act_L_call rfl ⟨rfl, rfl⟩ ok_L_call ⟨Nat.le_of_ble_eq_true rfl, Nat.le_of_ble_eq_true rfl⟩ (Nat.le_of_ble_eq_true rfl) dL_act_63 ⟨Nat.le_of_ble_eq_true rfl, Nat.le_of_ble_eq_true rfl⟩ (fun w2 hW2 => ?_)
        refine V_iload hc dL_act_66 0 rfl ?_
        refine V_icmp_ne (tgt := 85) (X := False) (Y := True) hc dL_act_68 (by decide) ⟨by decide, by decide, fun h => absurd h (by decide), fun _ => trivial⟩ (fun h => h.elim) (fun _ => ?_)
        refine V_aload_n hc dL_act_71 1 rfl ?_
        refine V_iload hc dL_act_72 5 rfl ?_
        refine V_fd (As := [.int (iI key)]) hc (fc_contains hl0 hW2 (ivE_add hI hk hroom) (by omega)) (fun j h9 => h9.2.1 hk) 1 (sB σ (ab_act σ.1 key).2) (fun r σ2 h9 => ⟨h9.2.2.1.mpr a2, h9.2.2.2⟩) rfl gL_act_X4_contains rfl ⟨rfl, rfl⟩ ok_X4_contains ⟨Nat.le_of_ble_eq_true rfl, Nat.le_of_ble_eq_true rfl⟩ (Nat.le_of_ble_eq_true rfl) dL_act_74 ⟨Nat.le_of_ble_eq_true rfl, Nat.le_of_ble_eq_true rfl⟩ (fun w3 hW3 => ?_)
        refine V_if_eq (tgt := 85) (X := False) (Y := True) hc dL_act_77 (by decide) ⟨by decide, fun h => absurd h (by decide), fun _ => trivial⟩ (fun h => h.elim) (fun _ => ?_)
        refine V_iload hc dL_act_80 0 rfl ?_
        refine V_goto (tgt := 87) hc dL_act_82 (by decide) ?_
        refine V_widen (k1 := 8) (n1 := 48) (Nat.le_of_ble_eq_true rfl) (Nat.le_of_ble_eq_true rfl) ?_
        exact V_iret hc hr w3 ⟨_, aP_K (by decide) a1 a3 (ivE_add hI hk hroom), hW3⟩ rfl dL_act_87
      · obtain ⟨a1, a2, a3⟩ := ac_add hI hJ hk hroom
        refine V_iload_n hc dL_act_36 2 rfl ?_
        refine V_bipush hc dL_act_37 (by decide) ?_
        refine V_icmp_ge (tgt := 88) (X := False) (Y := True) hc dL_act_39 (by decide) ⟨by omega, by decide, fun h => absurd h (by omega), fun _ => trivial⟩ (fun h => h.elim) (fun _ => ?_)
        refine V_aload_n hc dL_act_42 0 rfl ?_
        refine V_iload hc dL_act_43 4 rfl ?_
        refine V_fd (As := [.int (iI key)]) hc (fc_contains hl0 hCW hI (by omega)) (fun j h9 => h9.2.1 hk) 0 σ (fun r σ2 h9 => ⟨h9.2.1.elim id (fun e9 => absurd (h9.2.2.1.mp e9) hp), h9.2.2.2⟩) rfl gL_act_X4_contains rfl ⟨rfl, rfl⟩ ok_X4_contains ⟨Nat.le_of_ble_eq_true rfl, Nat.le_of_ble_eq_true rfl⟩ (Nat.le_of_ble_eq_true rfl) dL_act_45 ⟨Nat.le_of_ble_eq_true rfl, Nat.le_of_ble_eq_true rfl⟩ (fun w1 hW1 => ?_)
        refine V_if_eq (tgt := 55) (X := True) (Y := False) hc dL_act_48 (by decide) ⟨by decide, fun _ => trivial, fun h => h (by decide)⟩ (fun _ => ?_) (fun h => h.elim)
        refine V_iconst hc dL_act_55 ?_
        refine V_istore hc dL_act_56 [(5, .int (iI 1)), (0, .ref hB), (1, .int (iI x)), (2, .int (iI (x % 16))), (3, .int (iI (x / 16))), (4, .int (iI key))] (Nat.le_of_ble_eq_true rfl) rfl ?_
        refine V_aload_n hc dL_act_58 1 rfl ?_
        refine V_iconst hc dL_act_59 ?_
        refine V_iload hc dL_act_60 5 rfl ?_
        refine V_iconst hc dL_act_62 ?_
        refine V_lc (As := [.ref hB, .int (iI 0), .int (iI key), .int (iI 0)]) (hh := [(0, 158, 159, 51), (0, 158, 164, 53), (0, 158, 169, 55)]) hc hG (lc_call_0 hl0 hW1 hI (by omega) (by decide)) 1 (sB σ (ab_act σ.1 key).2) (dk_add1 hk hroom hp) rfl gL_act_L_call rfl ⟨rfl, rfl⟩ ok_L_call ⟨Nat.le_of_ble_eq_true rfl, Nat.le_of_ble_eq_true rfl⟩ (Nat.le_of_ble_eq_true rfl) dL_act_63 ⟨Nat.le_of_ble_eq_true rfl, Nat.le_of_ble_eq_true rfl⟩ (fun w2 hW2 => ?_)
        refine V_iload hc dL_act_66 0 rfl ?_
        refine V_icmp_ne (tgt := 85) (X := False) (Y := True) hc dL_act_68 (by decide) ⟨by decide, by decide, fun h => absurd h (by decide), fun _ => trivial⟩ (fun h => h.elim) (fun _ => ?_)
        refine V_aload_n hc dL_act_71 1 rfl ?_
        refine V_iload hc dL_act_72 5 rfl ?_
        refine V_fd (As := [.int (iI key)]) hc (fc_contains hl0 hW2 (ivE_add hI hk hroom) (by omega)) (fun j h9 => h9.2.1 hk) 1 (sB σ (ab_act σ.1 key).2) (fun r σ2 h9 => ⟨h9.2.2.1.mpr a2, h9.2.2.2⟩) rfl gL_act_X4_contains rfl ⟨rfl, rfl⟩ ok_X4_contains ⟨Nat.le_of_ble_eq_true rfl, Nat.le_of_ble_eq_true rfl⟩ (Nat.le_of_ble_eq_true rfl) dL_act_74 ⟨Nat.le_of_ble_eq_true rfl, Nat.le_of_ble_eq_true rfl⟩ (fun w3 hW3 => ?_)
        refine V_if_eq (tgt := 85) (X := False) (Y := True) hc dL_act_77 (by decide) ⟨by decide, fun h => absurd h (by decide), fun _ => trivial⟩ (fun h => h.elim) (fun _ => ?_)
        refine V_iload hc dL_act_80 0 rfl ?_
        refine V_goto (tgt := 87) hc dL_act_82 (by decide) ?_
        refine V_widen (k1 := 8) (n1 := 48) (Nat.le_of_ble_eq_true rfl) (Nat.le_of_ble_eq_true rfl) ?_
        exact V_iret hc hr w3 ⟨_, aP_K (by decide) a1 a3 (ivE_add hI hk hroom), hW3⟩ rfl dL_act_87
    · by_cases c11 : x % 16 < 11
      · by_cases hp : ab_pres (as_T σ.1) key
        · obtain ⟨a1, a2, a3⟩ := ac_rem hI hJ hk
          refine V_iload_n hc dL_act_36 2 rfl ?_
          refine V_bipush hc dL_act_37 (by decide) ?_
          refine V_icmp_ge (tgt := 88) (X := True) (Y := False) hc dL_act_39 (by decide) ⟨by omega, by decide, fun _ => trivial, fun h => h (by omega)⟩ (fun _ => ?_) (fun h => h.elim)
          refine V_iload_n hc dL_act_88 2 rfl ?_
          refine V_bipush hc dL_act_89 (by decide) ?_
          refine V_icmp_ge (tgt := 140) (X := False) (Y := True) hc dL_act_91 (by decide) ⟨by omega, by decide, fun h => absurd h (by omega), fun _ => trivial⟩ (fun h => h.elim) (fun _ => ?_)
          refine V_aload_n hc dL_act_94 0 rfl ?_
          refine V_iload hc dL_act_95 4 rfl ?_
          refine V_fd (As := [.int (iI key)]) hc (fc_contains hl0 hCW hI (by omega)) (fun j h9 => h9.2.1 hk) 1 σ (fun r σ2 h9 => ⟨h9.2.2.1.mpr hp, h9.2.2.2⟩) rfl gL_act_X4_contains rfl ⟨rfl, rfl⟩ ok_X4_contains ⟨Nat.le_of_ble_eq_true rfl, Nat.le_of_ble_eq_true rfl⟩ (Nat.le_of_ble_eq_true rfl) dL_act_97 ⟨Nat.le_of_ble_eq_true rfl, Nat.le_of_ble_eq_true rfl⟩ (fun w1 hW1 => ?_)
          refine V_if_eq (tgt := 107) (X := False) (Y := True) hc dL_act_100 (by decide) ⟨by decide, fun h => absurd h (by decide), fun _ => trivial⟩ (fun h => h.elim) (fun _ => ?_)
          refine V_iconst hc dL_act_103 ?_
          refine V_goto (tgt := 108) hc dL_act_104 (by decide) ?_
          refine V_istore hc dL_act_108 [(5, .int (iI 1)), (0, .ref hB), (1, .int (iI x)), (2, .int (iI (x % 16))), (3, .int (iI (x / 16))), (4, .int (iI key))] (Nat.le_of_ble_eq_true rfl) rfl ?_
          refine V_aload_n hc dL_act_110 1 rfl ?_
          refine V_iconst hc dL_act_111 ?_
          refine V_iload hc dL_act_112 5 rfl ?_
          refine V_iconst hc dL_act_114 ?_
          refine V_lc (As := [.ref hB, .int (iI 1), .int (iI key), .int (iI 0)]) (hh := [(0, 158, 159, 51), (0, 158, 164, 53), (0, 158, 169, 55)]) hc hG (lc_call_1 hl0 hW1 hI (by omega) (by decide)) 1 (sB σ (ab_act σ.1 (key + 500)).2) (dk_rem1 hk hp) rfl gL_act_L_call rfl ⟨rfl, rfl⟩ ok_L_call ⟨Nat.le_of_ble_eq_true rfl, Nat.le_of_ble_eq_true rfl⟩ (Nat.le_of_ble_eq_true rfl) dL_act_115 ⟨Nat.le_of_ble_eq_true rfl, Nat.le_of_ble_eq_true rfl⟩ (fun w2 hW2 => ?_)
          refine V_iload hc dL_act_118 0 rfl ?_
          refine V_icmp_ne (tgt := 137) (X := False) (Y := True) hc dL_act_120 (by decide) ⟨by decide, by decide, fun h => absurd h (by decide), fun _ => trivial⟩ (fun h => h.elim) (fun _ => ?_)
          refine V_aload_n hc dL_act_123 1 rfl ?_
          refine V_iload hc dL_act_124 5 rfl ?_
          refine V_fd (As := [.int (iI key)]) hc (fc_contains hl0 hW2 (ivE_rem hI hk) (by omega)) (fun j h9 => h9.2.1 hk) 0 (sB σ (ab_act σ.1 (key + 500)).2) (fun r σ2 h9 => ⟨h9.2.1.elim id (fun e9 => absurd (h9.2.2.1.mp e9) a2), h9.2.2.2⟩) rfl gL_act_X4_contains rfl ⟨rfl, rfl⟩ ok_X4_contains ⟨Nat.le_of_ble_eq_true rfl, Nat.le_of_ble_eq_true rfl⟩ (Nat.le_of_ble_eq_true rfl) dL_act_126 ⟨Nat.le_of_ble_eq_true rfl, Nat.le_of_ble_eq_true rfl⟩ (fun w3 hW3 => ?_)
          refine V_if_ne (tgt := 137) (X := False) (Y := True) hc dL_act_129 (by decide) ⟨by decide, fun h => absurd h (by decide), fun _ => trivial⟩ (fun h => h.elim) (fun _ => ?_)
          refine V_iload hc dL_act_132 0 rfl ?_
          refine V_goto (tgt := 139) hc dL_act_134 (by decide) ?_
          refine V_widen (k1 := 8) (n1 := 48) (Nat.le_of_ble_eq_true rfl) (Nat.le_of_ble_eq_true rfl) ?_
          exact V_iret hc hr w3 ⟨_, aP_K (by decide) a1 a3 (ivE_rem hI hk), hW3⟩ rfl dL_act_139
        · obtain ⟨a1, a2, a3⟩ := ac_rem hI hJ hk
          refine V_iload_n hc dL_act_36 2 rfl ?_
          refine V_bipush hc dL_act_37 (by decide) ?_
          refine V_icmp_ge (tgt := 88) (X := True) (Y := False) hc dL_act_39 (by decide) ⟨by omega, by decide, fun _ => trivial, fun h => h (by omega)⟩ (fun _ => ?_) (fun h => h.elim)
          refine V_iload_n hc dL_act_88 2 rfl ?_
          refine V_bipush hc dL_act_89 (by decide) ?_
          refine V_icmp_ge (tgt := 140) (X := False) (Y := True) hc dL_act_91 (by decide) ⟨by omega, by decide, fun h => absurd h (by omega), fun _ => trivial⟩ (fun h => h.elim) (fun _ => ?_)
          refine V_aload_n hc dL_act_94 0 rfl ?_
          refine V_iload hc dL_act_95 4 rfl ?_
          refine V_fd (As := [.int (iI key)]) hc (fc_contains hl0 hCW hI (by omega)) (fun j h9 => h9.2.1 hk) 0 σ (fun r σ2 h9 => ⟨h9.2.1.elim id (fun e9 => absurd (h9.2.2.1.mp e9) hp), h9.2.2.2⟩) rfl gL_act_X4_contains rfl ⟨rfl, rfl⟩ ok_X4_contains ⟨Nat.le_of_ble_eq_true rfl, Nat.le_of_ble_eq_true rfl⟩ (Nat.le_of_ble_eq_true rfl) dL_act_97 ⟨Nat.le_of_ble_eq_true rfl, Nat.le_of_ble_eq_true rfl⟩ (fun w1 hW1 => ?_)
          refine V_if_eq (tgt := 107) (X := True) (Y := False) hc dL_act_100 (by decide) ⟨by decide, fun _ => trivial, fun h => h (by decide)⟩ (fun _ => ?_) (fun h => h.elim)
          refine V_iconst hc dL_act_107 ?_
          refine V_istore hc dL_act_108 [(5, .int (iI 0)), (0, .ref hB), (1, .int (iI x)), (2, .int (iI (x % 16))), (3, .int (iI (x / 16))), (4, .int (iI key))] (Nat.le_of_ble_eq_true rfl) rfl ?_
          refine V_aload_n hc dL_act_110 1 rfl ?_
          refine V_iconst hc dL_act_111 ?_
          refine V_iload hc dL_act_112 5 rfl ?_
          refine V_iconst hc dL_act_114 ?_
          refine V_lc (As := [.ref hB, .int (iI 1), .int (iI key), .int (iI 0)]) (hh := [(0, 158, 159, 51), (0, 158, 164, 53), (0, 158, 169, 55)]) hc hG (lc_call_1 hl0 hW1 hI (by omega) (by decide)) 0 (sB σ (ab_act σ.1 (key + 500)).2) (dk_rem0 hk hp) rfl gL_act_L_call rfl ⟨rfl, rfl⟩ ok_L_call ⟨Nat.le_of_ble_eq_true rfl, Nat.le_of_ble_eq_true rfl⟩ (Nat.le_of_ble_eq_true rfl) dL_act_115 ⟨Nat.le_of_ble_eq_true rfl, Nat.le_of_ble_eq_true rfl⟩ (fun w2 hW2 => ?_)
          refine V_iload hc dL_act_118 0 rfl ?_
          refine V_icmp_ne (tgt := 137) (X := False) (Y := True) hc dL_act_120 (by decide) ⟨by decide, by decide, fun h => absurd h (by decide), fun _ => trivial⟩ (fun h => h.elim) (fun _ => ?_)
          refine V_aload_n hc dL_act_123 1 rfl ?_
          refine V_iload hc dL_act_124 5 rfl ?_
          refine V_fd (As := [.int (iI key)]) hc (fc_contains hl0 hW2 (ivE_rem hI hk) (by omega)) (fun j h9 => h9.2.1 hk) 0 (sB σ (ab_act σ.1 (key + 500)).2) (fun r σ2 h9 => ⟨h9.2.1.elim id (fun e9 => absurd (h9.2.2.1.mp e9) a2), h9.2.2.2⟩) rfl gL_act_X4_contains rfl ⟨rfl, rfl⟩ ok_X4_contains ⟨Nat.le_of_ble_eq_true rfl, Nat.le_of_ble_eq_true rfl⟩ (Nat.le_of_ble_eq_true rfl) dL_act_126 ⟨Nat.le_of_ble_eq_true rfl, Nat.le_of_ble_eq_true rfl⟩ (fun w3 hW3 => ?_)
          refine V_if_ne (tgt := 137) (X := False) (Y := True) hc dL_act_129 (by decide) ⟨by decide, fun h => absurd h (by decide), fun _ => trivial⟩ (fun h => h.elim) (fun _ => ?_)
          refine V_iload hc dL_act_132 0 rfl ?_
          refine V_goto (tgt := 139) hc dL_act_134 (by decide) ?_
          refine V_widen (k1 := 8) (n1 := 48) (Nat.le_of_ble_eq_true rfl) (Nat.le_of_ble_eq_true rfl) ?_
          exact V_iret hc hr w3 ⟨_, aP_K (by decide) a1 a3 (ivE_rem hI hk), hW3⟩ rfl dL_act_139
      · by_cases c12 : x % 16 = 11
        · obtain ⟨a1, a2, a3, a4⟩ := ac_idle hI hJ
          refine V_iload_n hc dL_act_36 2 rfl ?_
          refine V_bipush hc dL_act_37 (by decide) ?_
          refine V_icmp_ge (tgt := 88) (X := True) (Y := False) hc dL_act_39 (by decide) ⟨by omega, by decide, fun _ => trivial, fun h => h (by omega)⟩ (fun _ => ?_) (fun h => h.elim)
          refine V_iload_n hc dL_act_88 2 rfl ?_
          refine V_bipush hc dL_act_89 (by decide) ?_
          refine V_icmp_ge (tgt := 140) (X := True) (Y := False) hc dL_act_91 (by decide) ⟨by omega, by decide, fun _ => trivial, fun h => h (by omega)⟩ (fun _ => ?_) (fun h => h.elim)
          refine V_iload_n hc dL_act_140 2 rfl ?_
          refine V_bipush hc dL_act_141 (by decide) ?_
          refine V_neF (tgt := 219) hc dL_act_143 (by decide) (by omega) ?_
          refine V_aload_n hc dL_act_146 0 rfl ?_
          refine V_iconst hc dL_act_147 ?_
          refine V_fd (As := [.int (iI 3)]) hc (fc_count hl0 hCW hI (by decide)) (fun j h9 => h9.2.1 ⟨by decide, by decide⟩) (as_N σ.1 3) σ (fun r σ2 h9 => ⟨h9.2.1.trans cn_3, h9.2.2⟩) rfl gL_act_X4_count rfl ⟨rfl, rfl⟩ ok_X4_count ⟨Nat.le_of_ble_eq_true rfl, Nat.le_of_ble_eq_true rfl⟩ (Nat.le_of_ble_eq_true rfl) dL_act_148 ⟨Nat.le_of_ble_eq_true rfl, Nat.le_of_ble_eq_true rfl⟩ (fun w1 hW1 => ?_)
          refine V_istore hc dL_act_151 [(5, .int (iI (as_N σ.1 3))), (0, .ref hB), (1, .int (iI x)), (2, .int (iI (x % 16))), (3, .int (iI (x / 16))), (4, .int (iI key))] (Nat.le_of_ble_eq_true rfl) rfl ?_
          refine V_aload_n hc dL_act_153 1 rfl ?_
          refine V_iconst hc dL_act_154 ?_
          refine V_fd (As := [.int (iI 2)]) hc (fc_count hl0 hW1 hI (by decide)) (fun j h9 => h9.2.1 ⟨by decide, by decide⟩) (as_N σ.1 2) σ (fun r σ2 h9 => ⟨h9.2.1.trans cn_2, h9.2.2⟩) rfl gL_act_X4_count rfl ⟨rfl, rfl⟩ ok_X4_count ⟨Nat.le_of_ble_eq_true rfl, Nat.le_of_ble_eq_true rfl⟩ (Nat.le_of_ble_eq_true rfl) dL_act_155 ⟨Nat.le_of_ble_eq_true rfl, Nat.le_of_ble_eq_true rfl⟩ (fun w2 hW2 => ?_)
          refine V_istore hc dL_act_158 [(6, .int (iI (as_N σ.1 2))), (5, .int (iI (as_N σ.1 3))), (0, .ref hB), (1, .int (iI x)), (2, .int (iI (x % 16))), (3, .int (iI (x / 16))), (4, .int (iI key))] (Nat.le_of_ble_eq_true rfl) rfl ?_
          refine V_aload_n hc dL_act_160 2 rfl ?_
          refine V_fd (As := []) hc (fc_idle hW2 hI ) (fun j h9 => h9) ((ab_act σ.1 (-1)).1) (sB σ (ab_act σ.1 (-1)).2) (fun r σ2 h9 => ⟨h9.1, h9.2⟩) rfl gL_act_X4_idle rfl ⟨rfl, rfl⟩ ok_X4_idle ⟨Nat.le_of_ble_eq_true rfl, Nat.le_of_ble_eq_true rfl⟩ (Nat.le_of_ble_eq_true rfl) dL_act_161 ⟨Nat.le_of_ble_eq_true rfl, Nat.le_of_ble_eq_true rfl⟩ (fun w3 hW3 => ?_)
          refine V_istore hc dL_act_164 [(7, .int (iI ((ab_act σ.1 (-1)).1))), (6, .int (iI (as_N σ.1 2))), (5, .int (iI (as_N σ.1 3))), (0, .ref hB), (1, .int (iI x)), (2, .int (iI (x % 16))), (3, .int (iI (x / 16))), (4, .int (iI key))] (Nat.le_of_ble_eq_true rfl) rfl ?_
          refine V_aload_n hc dL_act_166 3 rfl ?_
          refine V_iconst hc dL_act_167 ?_
          refine V_fd (As := [.int (iI 0)]) hc (fc_count hl0 hW3 (ivE_idle hI) (by decide)) (fun j h9 => h9.2.1 ⟨by decide, by decide⟩) (as_N (ab_act σ.1 (-1)).2 0) (sB σ (ab_act σ.1 (-1)).2) (fun r σ2 h9 => ⟨h9.2.1.trans cn_0, h9.2.2⟩) rfl gL_act_X4_count rfl ⟨rfl, rfl⟩ ok_X4_count ⟨Nat.le_of_ble_eq_true rfl, Nat.le_of_ble_eq_true rfl⟩ (Nat.le_of_ble_eq_true rfl) dL_act_168 ⟨Nat.le_of_ble_eq_true rfl, Nat.le_of_ble_eq_true rfl⟩ (fun w4 hW4 => ?_)
          refine V_iload hc dL_act_171 0 rfl ?_
          refine V_neF (tgt := 216) hc dL_act_173 (by decide) a4.1 ?_
          refine V_aload_n hc dL_act_176 3 rfl ?_
          refine V_iconst hc dL_act_177 ?_
          refine V_fd (As := [.int (iI 3)]) hc (fc_count hl0 hW4 (ivE_idle hI) (by decide)) (fun j h9 => h9.2.1 ⟨by decide, by decide⟩) (as_N (ab_act σ.1 (-1)).2 3) (sB σ (ab_act σ.1 (-1)).2) (fun r σ2 h9 => ⟨h9.2.1.trans cn_3, h9.2.2⟩) rfl gL_act_X4_count rfl ⟨rfl, rfl⟩ ok_X4_count ⟨Nat.le_of_ble_eq_true rfl, Nat.le_of_ble_eq_true rfl⟩ (Nat.le_of_ble_eq_true rfl) dL_act_178 ⟨Nat.le_of_ble_eq_true rfl, Nat.le_of_ble_eq_true rfl⟩ (fun w5 hW5 => ?_)
          refine V_iload hc dL_act_181 2 rfl ?_
          refine V_iconst hc dL_act_183 ?_
          refine V_iadd hc dL_act_184 ?_
          refine V_neF (tgt := 216) hc dL_act_185 (by decide) a4.2.1 ?_
          refine V_aload_n hc dL_act_188 3 rfl ?_
          refine V_iconst hc dL_act_189 ?_
          refine V_fd (As := [.int (iI 2)]) hc (fc_count hl0 hW5 (ivE_idle hI) (by decide)) (fun j h9 => h9.2.1 ⟨by decide, by decide⟩) (as_N (ab_act σ.1 (-1)).2 2) (sB σ (ab_act σ.1 (-1)).2) (fun r σ2 h9 => ⟨h9.2.1.trans cn_2, h9.2.2⟩) rfl gL_act_X4_count rfl ⟨rfl, rfl⟩ ok_X4_count ⟨Nat.le_of_ble_eq_true rfl, Nat.le_of_ble_eq_true rfl⟩ (Nat.le_of_ble_eq_true rfl) dL_act_190 ⟨Nat.le_of_ble_eq_true rfl, Nat.le_of_ble_eq_true rfl⟩ (fun w6 hW6 => ?_)
          refine V_iload hc dL_act_193 1 rfl ?_
          refine V_iload hc dL_act_195 0 rfl ?_
          refine V_iadd hc dL_act_197 ?_
          refine V_neF (tgt := 216) hc dL_act_198 (by decide) a4.2.2.1 ?_
          refine V_aload_n hc dL_act_201 3 rfl ?_
          refine V_iconst hc dL_act_202 ?_
          refine V_fd (As := [.int (iI 1)]) hc (fc_count hl0 hW6 (ivE_idle hI) (by decide)) (fun j h9 => h9.2.1 ⟨by decide, by decide⟩) (as_N (ab_act σ.1 (-1)).2 1) (sB σ (ab_act σ.1 (-1)).2) (fun r σ2 h9 => ⟨h9.2.1.trans cn_1, h9.2.2⟩) rfl gL_act_X4_count rfl ⟨rfl, rfl⟩ ok_X4_count ⟨Nat.le_of_ble_eq_true rfl, Nat.le_of_ble_eq_true rfl⟩ (Nat.le_of_ble_eq_true rfl) dL_act_203 ⟨Nat.le_of_ble_eq_true rfl, Nat.le_of_ble_eq_true rfl⟩ (fun w7 hW7 => ?_)
          refine V_iload hc dL_act_206 0 rfl ?_
          refine V_icmp_lt (tgt := 216) (X := False) (Y := True) hc dL_act_208 (by decide) ⟨by omega, by omega, fun h => absurd h (by omega), fun _ => trivial⟩ (fun h => h.elim) (fun _ => ?_)
          refine V_iload hc dL_act_211 0 rfl ?_
          refine V_goto (tgt := 218) hc dL_act_213 (by decide) ?_
          refine V_widen (k1 := 8) (n1 := 48) (Nat.le_of_ble_eq_true rfl) (Nat.le_of_ble_eq_true rfl) ?_
          exact V_iret hc hr w7 ⟨_, aP_K (by omega) a1 a2 (ivE_idle hI), hW7⟩ rfl dL_act_218
        · by_cases c14 : x % 16 < 14
          · rcases hI.R with h0 | h1
            · by_cases d12 : x % 16 = 12
              · have hb9 := reb_0 h0
                have hl9 := ab_lst_le hI.g
                refine V_iload_n hc dL_act_36 2 rfl ?_
                refine V_bipush hc dL_act_37 (by decide) ?_
                refine V_icmp_ge (tgt := 88) (X := True) (Y := False) hc dL_act_39 (by decide) ⟨by omega, by decide, fun _ => trivial, fun h => h (by omega)⟩ (fun _ => ?_) (fun h => h.elim)
                refine V_iload_n hc dL_act_88 2 rfl ?_
                refine V_bipush hc dL_act_89 (by decide) ?_
                refine V_icmp_ge (tgt := 140) (X := True) (Y := False) hc dL_act_91 (by decide) ⟨by omega, by decide, fun _ => trivial, fun h => h (by omega)⟩ (fun _ => ?_) (fun h => h.elim)
                refine V_iload_n hc dL_act_140 2 rfl ?_
                refine V_bipush hc dL_act_141 (by decide) ?_
                refine V_icmp_ne (tgt := 219) (X := True) (Y := False) hc dL_act_143 (by decide) ⟨by omega, by decide, fun _ => trivial, fun h => h (by omega)⟩ (fun _ => ?_) (fun h => h.elim)
                refine V_iload_n hc dL_act_219 2 rfl ?_
                refine V_bipush hc dL_act_220 (by decide) ?_
                refine V_icmp_ge (tgt := 303) (X := False) (Y := True) hc dL_act_222 (by decide) ⟨by omega, by decide, fun h => absurd h (by omega), fun _ => trivial⟩ (fun h => h.elim) (fun _ => ?_)
                refine V_aload_n hc dL_act_225 0 rfl ?_
                refine V_iconst hc dL_act_226 ?_
                refine V_fd (As := [.int (iI 0)]) hc (fc_rebuild hl0 hCW hI (by decide)) (fun j h9 => h9.2.1 ⟨by decide, by decide⟩) (ab_reb σ.1 0) σ (fun r σ2 h9 => ⟨h9.2.1, h9.2.2⟩) rfl gL_act_X4_rebuild rfl ⟨rfl, rfl⟩ ok_X4_rebuild ⟨Nat.le_of_ble_eq_true rfl, Nat.le_of_ble_eq_true rfl⟩ (Nat.le_of_ble_eq_true rfl) dL_act_227 ⟨Nat.le_of_ble_eq_true rfl, Nat.le_of_ble_eq_true rfl⟩ (fun w1 hW1 => ?_)
                refine V_if_le (tgt := 237) (X := True) (Y := False) hc dL_act_230 (by decide) ⟨by omega, fun _ => trivial, fun h => h (by omega)⟩ (fun _ => ?_) (fun h => h.elim)
                refine V_iconst hc dL_act_237 ?_
                refine V_istore hc dL_act_238 [(5, .int (iI 0)), (0, .ref hB), (1, .int (iI x)), (2, .int (iI (x % 16))), (3, .int (iI (x / 16))), (4, .int (iI key))] (Nat.le_of_ble_eq_true rfl) rfl ?_
                refine V_aload_n hc dL_act_240 1 rfl ?_
                refine V_iload_n hc dL_act_241 3 rfl ?_
                refine V_bipush hc dL_act_242 (by decide) ?_
                refine V_neF (tgt := 251) hc dL_act_244 (by decide) (by omega) ?_
                refine V_iconst hc dL_act_247 ?_
                refine V_goto (tgt := 252) hc dL_act_248 (by decide) ?_
                refine V_iconst hc dL_act_252 ?_
                refine V_iconst hc dL_act_253 ?_
                refine V_lc (As := [.ref hB, .int (iI 2), .int (iI 0), .int (iI 0)]) (hh := [(0, 158, 159, 51), (0, 158, 164, 53), (0, 158, 169, 55)]) hc hG (lc_call_2 hl0 hW1 hI (by decide) (by decide)) (((ab_lst (as_T σ.1).1 (as_T σ.1).2).length : Nat) : Int) (sB σ (ab_beg σ.1)) (dk_begin h0) rfl gL_act_L_call rfl ⟨rfl, rfl⟩ ok_L_call ⟨Nat.le_of_ble_eq_true rfl, Nat.le_of_ble_eq_true rfl⟩ (Nat.le_of_ble_eq_true rfl) dL_act_254 ⟨Nat.le_of_ble_eq_true rfl, Nat.le_of_ble_eq_true rfl⟩ (fun w2 hW2 => ?_)
                refine V_istore hc dL_act_257 [(6, .int (iI (((ab_lst (as_T σ.1).1 (as_T σ.1).2).length : Nat) : Int))), (5, .int (iI 0)), (0, .ref hB), (1, .int (iI x)), (2, .int (iI (x % 16))), (3, .int (iI (x / 16))), (4, .int (iI key))] (Nat.le_of_ble_eq_true rfl) rfl ?_
                refine V_iload hc dL_act_259 0 rfl ?_
                refine V_bipush hc dL_act_261 (by decide) ?_
                refine V_icmp_ne (tgt := 270) (X := True) (Y := False) hc dL_act_263 (by decide) ⟨by omega, by decide, fun _ => trivial, fun h => h (by omega)⟩ (fun _ => ?_) (fun h => h.elim)
                refine V_iconst hc dL_act_270 ?_
                refine V_iload_n hc dL_act_271 4 rfl ?_
                refine V_bipush hc dL_act_272 (by decide) ?_
                refine V_neF (tgt := 282) hc dL_act_274 (by decide) (by omega) ?_
                refine V_iload hc dL_act_277 1 rfl ?_
                refine V_goto (tgt := 292) hc dL_act_279 (by decide) ?_
                refine V_icmp_ne (tgt := 300) (X := False) (Y := True) hc dL_act_292 (by decide) ⟨by decide, by decide, fun h => absurd h (by decide), fun _ => trivial⟩ (fun h => h.elim) (fun _ => ?_)
                refine V_iload hc dL_act_295 0 rfl ?_
                refine V_goto (tgt := 302) hc dL_act_297 (by decide) ?_
                refine V_widen (k1 := 8) (n1 := 48) (Nat.le_of_ble_eq_true rfl) (Nat.le_of_ble_eq_true rfl) ?_
                exact V_iret hc hr w2 ⟨_, aP_K (by omega) jr_beg (Nat.le_succ _) (ivE_begin hI h0), hW2⟩ rfl dL_act_302
              · have hb9 := reb_0 h0
                refine V_iload_n hc dL_act_36 2 rfl ?_
                refine V_bipush hc dL_act_37 (by decide) ?_
                refine V_icmp_ge (tgt := 88) (X := True) (Y := False) hc dL_act_39 (by decide) ⟨by omega, by decide, fun _ => trivial, fun h => h (by omega)⟩ (fun _ => ?_) (fun h => h.elim)
                refine V_iload_n hc dL_act_88 2 rfl ?_
                refine V_bipush hc dL_act_89 (by decide) ?_
                refine V_icmp_ge (tgt := 140) (X := True) (Y := False) hc dL_act_91 (by decide) ⟨by omega, by decide, fun _ => trivial, fun h => h (by omega)⟩ (fun _ => ?_) (fun h => h.elim)
                refine V_iload_n hc dL_act_140 2 rfl ?_
                refine V_bipush hc dL_act_141 (by decide) ?_
                refine V_icmp_ne (tgt := 219) (X := True) (Y := False) hc dL_act_143 (by decide) ⟨by omega, by decide, fun _ => trivial, fun h => h (by omega)⟩ (fun _ => ?_) (fun h => h.elim)
                refine V_iload_n hc dL_act_219 2 rfl ?_
                refine V_bipush hc dL_act_220 (by decide) ?_
                refine V_icmp_ge (tgt := 303) (X := False) (Y := True) hc dL_act_222 (by decide) ⟨by omega, by decide, fun h => absurd h (by omega), fun _ => trivial⟩ (fun h => h.elim) (fun _ => ?_)
                refine V_aload_n hc dL_act_225 0 rfl ?_
                refine V_iconst hc dL_act_226 ?_
                refine V_fd (As := [.int (iI 0)]) hc (fc_rebuild hl0 hCW hI (by decide)) (fun j h9 => h9.2.1 ⟨by decide, by decide⟩) (ab_reb σ.1 0) σ (fun r σ2 h9 => ⟨h9.2.1, h9.2.2⟩) rfl gL_act_X4_rebuild rfl ⟨rfl, rfl⟩ ok_X4_rebuild ⟨Nat.le_of_ble_eq_true rfl, Nat.le_of_ble_eq_true rfl⟩ (Nat.le_of_ble_eq_true rfl) dL_act_227 ⟨Nat.le_of_ble_eq_true rfl, Nat.le_of_ble_eq_true rfl⟩ (fun w1 hW1 => ?_)
                refine V_if_le (tgt := 237) (X := True) (Y := False) hc dL_act_230 (by decide) ⟨by omega, fun _ => trivial, fun h => h (by omega)⟩ (fun _ => ?_) (fun h => h.elim)
                refine V_iconst hc dL_act_237 ?_
                refine V_istore hc dL_act_238 [(5, .int (iI 0)), (0, .ref hB), (1, .int (iI x)), (2, .int (iI (x % 16))), (3, .int (iI (x / 16))), (4, .int (iI key))] (Nat.le_of_ble_eq_true rfl) rfl ?_
                refine V_aload_n hc dL_act_240 1 rfl ?_
                refine V_iload_n hc dL_act_241 3 rfl ?_
                refine V_bipush hc dL_act_242 (by decide) ?_
                refine V_icmp_ne (tgt := 251) (X := True) (Y := False) hc dL_act_244 (by decide) ⟨by omega, by decide, fun _ => trivial, fun h => h (by omega)⟩ (fun _ => ?_) (fun h => h.elim)
                refine V_iconst hc dL_act_251 ?_
                refine V_iconst hc dL_act_252 ?_
                refine V_iconst hc dL_act_253 ?_
                refine V_lc (As := [.ref hB, .int (iI 3), .int (iI 0), .int (iI 0)]) (hh := [(0, 158, 159, 51), (0, 158, 164, 53), (0, 158, 169, 55)]) hc hG (lc_call_3 hl0 hW1 hI (by decide) (by decide)) (-12) σ (dr_abandon h0) rfl gL_act_L_call rfl ⟨rfl, rfl⟩ ok_L_call ⟨Nat.le_of_ble_eq_true rfl, Nat.le_of_ble_eq_true rfl⟩ (Nat.le_of_ble_eq_true rfl) dL_act_254 ⟨Nat.le_of_ble_eq_true rfl, Nat.le_of_ble_eq_true rfl⟩ (fun w2 hW2 => ?_)
                refine V_istore hc dL_act_257 [(6, .int (iI (-12))), (5, .int (iI 0)), (0, .ref hB), (1, .int (iI x)), (2, .int (iI (x % 16))), (3, .int (iI (x / 16))), (4, .int (iI key))] (Nat.le_of_ble_eq_true rfl) rfl ?_
                refine V_iload hc dL_act_259 0 rfl ?_
                refine V_bipush hc dL_act_261 (by decide) ?_
                refine V_icmp_ne (tgt := 270) (X := False) (Y := True) hc dL_act_263 (by decide) ⟨by decide, by decide, fun h => absurd h (by decide), fun _ => trivial⟩ (fun h => h.elim) (fun _ => ?_)
                refine V_iconst hc dL_act_266 ?_
                refine V_goto (tgt := 271) hc dL_act_267 (by decide) ?_
                refine V_iload_n hc dL_act_271 4 rfl ?_
                refine V_bipush hc dL_act_272 (by decide) ?_
                refine V_icmp_ne (tgt := 282) (X := True) (Y := False) hc dL_act_274 (by decide) ⟨by omega, by decide, fun _ => trivial, fun h => h (by omega)⟩ (fun _ => ?_) (fun h => h.elim)
                refine V_iload hc dL_act_282 1 rfl ?_
                refine V_if_ne (tgt := 291) (X := False) (Y := True) hc dL_act_284 (by decide) ⟨by decide, fun h => absurd h (by decide), fun _ => trivial⟩ (fun h => h.elim) (fun _ => ?_)
                refine V_iconst hc dL_act_287 ?_
                refine V_goto (tgt := 292) hc dL_act_288 (by decide) ?_
                refine V_icmp_ne (tgt := 300) (X := False) (Y := True) hc dL_act_292 (by decide) ⟨by decide, by decide, fun h => absurd h (by decide), fun _ => trivial⟩ (fun h => h.elim) (fun _ => ?_)
                refine V_iload hc dL_act_295 0 rfl ?_
                refine V_goto (tgt := 302) hc dL_act_297 (by decide) ?_
                refine V_widen (k1 := 8) (n1 := 48) (Nat.le_of_ble_eq_true rfl) (Nat.le_of_ble_eq_true rfl) ?_
                exact V_iret hc hr w2 ⟨_, aP_R (by decide), hW2⟩ rfl dL_act_302
            · by_cases d12 : x % 16 = 12
              · have hb9 := reb_1 h1
                refine V_iload_n hc dL_act_36 2 rfl ?_
                refine V_bipush hc dL_act_37 (by decide) ?_
                refine V_icmp_ge (tgt := 88) (X := True) (Y := False) hc dL_act_39 (by decide) ⟨by omega, by decide, fun _ => trivial, fun h => h (by omega)⟩ (fun _ => ?_) (fun h => h.elim)
                refine V_iload_n hc dL_act_88 2 rfl ?_
                refine V_bipush hc dL_act_89 (by decide) ?_
                refine V_icmp_ge (tgt := 140) (X := True) (Y := False) hc dL_act_91 (by decide) ⟨by omega, by decide, fun _ => trivial, fun h => h (by omega)⟩ (fun _ => ?_) (fun h => h.elim)
                refine V_iload_n hc dL_act_140 2 rfl ?_
                refine V_bipush hc dL_act_141 (by decide) ?_
                refine V_icmp_ne (tgt := 219) (X := True) (Y := False) hc dL_act_143 (by decide) ⟨by omega, by decide, fun _ => trivial, fun h => h (by omega)⟩ (fun _ => ?_) (fun h => h.elim)
                refine V_iload_n hc dL_act_219 2 rfl ?_
                refine V_bipush hc dL_act_220 (by decide) ?_
                refine V_icmp_ge (tgt := 303) (X := False) (Y := True) hc dL_act_222 (by decide) ⟨by omega, by decide, fun h => absurd h (by omega), fun _ => trivial⟩ (fun h => h.elim) (fun _ => ?_)
                refine V_aload_n hc dL_act_225 0 rfl ?_
                refine V_iconst hc dL_act_226 ?_
                refine V_fd (As := [.int (iI 0)]) hc (fc_rebuild hl0 hCW hI (by decide)) (fun j h9 => h9.2.1 ⟨by decide, by decide⟩) (ab_reb σ.1 0) σ (fun r σ2 h9 => ⟨h9.2.1, h9.2.2⟩) rfl gL_act_X4_rebuild rfl ⟨rfl, rfl⟩ ok_X4_rebuild ⟨Nat.le_of_ble_eq_true rfl, Nat.le_of_ble_eq_true rfl⟩ (Nat.le_of_ble_eq_true rfl) dL_act_227 ⟨Nat.le_of_ble_eq_true rfl, Nat.le_of_ble_eq_true rfl⟩ (fun w1 hW1 => ?_)
                refine V_if_le (tgt := 237) (X := False) (Y := True) hc dL_act_230 (by decide) ⟨by omega, fun h => absurd h (by omega), fun _ => trivial⟩ (fun h => h.elim) (fun _ => ?_)
                refine V_iconst hc dL_act_233 ?_
                refine V_goto (tgt := 238) hc dL_act_234 (by decide) ?_
                refine V_istore hc dL_act_238 [(5, .int (iI 1)), (0, .ref hB), (1, .int (iI x)), (2, .int (iI (x % 16))), (3, .int (iI (x / 16))), (4, .int (iI key))] (Nat.le_of_ble_eq_true rfl) rfl ?_
                refine V_aload_n hc dL_act_240 1 rfl ?_
                refine V_iload_n hc dL_act_241 3 rfl ?_
                refine V_bipush hc dL_act_242 (by decide) ?_
                refine V_neF (tgt := 251) hc dL_act_244 (by decide) (by omega) ?_
                refine V_iconst hc dL_act_247 ?_
                refine V_goto (tgt := 252) hc dL_act_248 (by decide) ?_
                refine V_iconst hc dL_act_252 ?_
                refine V_iconst hc dL_act_253 ?_
                refine V_lc (As := [.ref hB, .int (iI 2), .int (iI 0), .int (iI 0)]) (hh := [(0, 158, 159, 51), (0, 158, 164, 53), (0, 158, 169, 55)]) hc hG (lc_call_2 hl0 hW1 hI (by decide) (by decide)) (-12) σ (dr_begin h1) rfl gL_act_L_call rfl ⟨rfl, rfl⟩ ok_L_call ⟨Nat.le_of_ble_eq_true rfl, Nat.le_of_ble_eq_true rfl⟩ (Nat.le_of_ble_eq_true rfl) dL_act_254 ⟨Nat.le_of_ble_eq_true rfl, Nat.le_of_ble_eq_true rfl⟩ (fun w2 hW2 => ?_)
                refine V_istore hc dL_act_257 [(6, .int (iI (-12))), (5, .int (iI 1)), (0, .ref hB), (1, .int (iI x)), (2, .int (iI (x % 16))), (3, .int (iI (x / 16))), (4, .int (iI key))] (Nat.le_of_ble_eq_true rfl) rfl ?_
                refine V_iload hc dL_act_259 0 rfl ?_
                refine V_bipush hc dL_act_261 (by decide) ?_
                refine V_icmp_ne (tgt := 270) (X := False) (Y := True) hc dL_act_263 (by decide) ⟨by decide, by decide, fun h => absurd h (by decide), fun _ => trivial⟩ (fun h => h.elim) (fun _ => ?_)
                refine V_iconst hc dL_act_266 ?_
                refine V_goto (tgt := 271) hc dL_act_267 (by decide) ?_
                refine V_iload_n hc dL_act_271 4 rfl ?_
                refine V_bipush hc dL_act_272 (by decide) ?_
                refine V_neF (tgt := 282) hc dL_act_274 (by decide) (by omega) ?_
                refine V_iload hc dL_act_277 1 rfl ?_
                refine V_goto (tgt := 292) hc dL_act_279 (by decide) ?_
                refine V_icmp_ne (tgt := 300) (X := False) (Y := True) hc dL_act_292 (by decide) ⟨by decide, by decide, fun h => absurd h (by decide), fun _ => trivial⟩ (fun h => h.elim) (fun _ => ?_)
                refine V_iload hc dL_act_295 0 rfl ?_
                refine V_goto (tgt := 302) hc dL_act_297 (by decide) ?_
                refine V_widen (k1 := 8) (n1 := 48) (Nat.le_of_ble_eq_true rfl) (Nat.le_of_ble_eq_true rfl) ?_
                exact V_iret hc hr w2 ⟨_, aP_R (by decide), hW2⟩ rfl dL_act_302
              · have hb9 := reb_1 h1
                have hl9 := hI.C
                refine V_iload_n hc dL_act_36 2 rfl ?_
                refine V_bipush hc dL_act_37 (by decide) ?_
                refine V_icmp_ge (tgt := 88) (X := True) (Y := False) hc dL_act_39 (by decide) ⟨by omega, by decide, fun _ => trivial, fun h => h (by omega)⟩ (fun _ => ?_) (fun h => h.elim)
                refine V_iload_n hc dL_act_88 2 rfl ?_
                refine V_bipush hc dL_act_89 (by decide) ?_
                refine V_icmp_ge (tgt := 140) (X := True) (Y := False) hc dL_act_91 (by decide) ⟨by omega, by decide, fun _ => trivial, fun h => h (by omega)⟩ (fun _ => ?_) (fun h => h.elim)
                refine V_iload_n hc dL_act_140 2 rfl ?_
                refine V_bipush hc dL_act_141 (by decide) ?_
                refine V_icmp_ne (tgt := 219) (X := True) (Y := False) hc dL_act_143 (by decide) ⟨by omega, by decide, fun _ => trivial, fun h => h (by omega)⟩ (fun _ => ?_) (fun h => h.elim)
                refine V_iload_n hc dL_act_219 2 rfl ?_
                refine V_bipush hc dL_act_220 (by decide) ?_
                refine V_icmp_ge (tgt := 303) (X := False) (Y := True) hc dL_act_222 (by decide) ⟨by omega, by decide, fun h => absurd h (by omega), fun _ => trivial⟩ (fun h => h.elim) (fun _ => ?_)
                refine V_aload_n hc dL_act_225 0 rfl ?_
                refine V_iconst hc dL_act_226 ?_
                refine V_fd (As := [.int (iI 0)]) hc (fc_rebuild hl0 hCW hI (by decide)) (fun j h9 => h9.2.1 ⟨by decide, by decide⟩) (ab_reb σ.1 0) σ (fun r σ2 h9 => ⟨h9.2.1, h9.2.2⟩) rfl gL_act_X4_rebuild rfl ⟨rfl, rfl⟩ ok_X4_rebuild ⟨Nat.le_of_ble_eq_true rfl, Nat.le_of_ble_eq_true rfl⟩ (Nat.le_of_ble_eq_true rfl) dL_act_227 ⟨Nat.le_of_ble_eq_true rfl, Nat.le_of_ble_eq_true rfl⟩ (fun w1 hW1 => ?_)
                refine V_if_le (tgt := 237) (X := False) (Y := True) hc dL_act_230 (by decide) ⟨by omega, fun h => absurd h (by omega), fun _ => trivial⟩ (fun h => h.elim) (fun _ => ?_)
                refine V_iconst hc dL_act_233 ?_
                refine V_goto (tgt := 238) hc dL_act_234 (by decide) ?_
                refine V_istore hc dL_act_238 [(5, .int (iI 1)), (0, .ref hB), (1, .int (iI x)), (2, .int (iI (x % 16))), (3, .int (iI (x / 16))), (4, .int (iI key))] (Nat.le_of_ble_eq_true rfl) rfl ?_
                refine V_aload_n hc dL_act_240 1 rfl ?_
                refine V_iload_n hc dL_act_241 3 rfl ?_
                refine V_bipush hc dL_act_242 (by decide) ?_
                refine V_icmp_ne (tgt := 251) (X := True) (Y := False) hc dL_act_244 (by decide) ⟨by omega, by decide, fun _ => trivial, fun h => h (by omega)⟩ (fun _ => ?_) (fun h => h.elim)
                refine V_iconst hc dL_act_251 ?_
                refine V_iconst hc dL_act_252 ?_
                refine V_iconst hc dL_act_253 ?_
                refine V_lc (As := [.ref hB, .int (iI 3), .int (iI 0), .int (iI 0)]) (hh := [(0, 158, 159, 51), (0, 158, 164, 53), (0, 158, 169, 55)]) hc hG (lc_call_3 hl0 hW1 hI (by decide) (by decide)) ((as_C σ.1 : Nat) : Int) (sB σ (ab_abn σ.1)) (dk_abandon h1) rfl gL_act_L_call rfl ⟨rfl, rfl⟩ ok_L_call ⟨Nat.le_of_ble_eq_true rfl, Nat.le_of_ble_eq_true rfl⟩ (Nat.le_of_ble_eq_true rfl) dL_act_254 ⟨Nat.le_of_ble_eq_true rfl, Nat.le_of_ble_eq_true rfl⟩ (fun w2 hW2 => ?_)
                refine V_istore hc dL_act_257 [(6, .int (iI ((as_C σ.1 : Nat) : Int))), (5, .int (iI 1)), (0, .ref hB), (1, .int (iI x)), (2, .int (iI (x % 16))), (3, .int (iI (x / 16))), (4, .int (iI key))] (Nat.le_of_ble_eq_true rfl) rfl ?_
                refine V_iload hc dL_act_259 0 rfl ?_
                refine V_bipush hc dL_act_261 (by decide) ?_
                refine V_icmp_ne (tgt := 270) (X := True) (Y := False) hc dL_act_263 (by decide) ⟨by omega, by decide, fun _ => trivial, fun h => h (by omega)⟩ (fun _ => ?_) (fun h => h.elim)
                refine V_iconst hc dL_act_270 ?_
                refine V_iload_n hc dL_act_271 4 rfl ?_
                refine V_bipush hc dL_act_272 (by decide) ?_
                refine V_icmp_ne (tgt := 282) (X := True) (Y := False) hc dL_act_274 (by decide) ⟨by omega, by decide, fun _ => trivial, fun h => h (by omega)⟩ (fun _ => ?_) (fun h => h.elim)
                refine V_iload hc dL_act_282 1 rfl ?_
                refine V_if_ne (tgt := 291) (X := True) (Y := False) hc dL_act_284 (by decide) ⟨by decide, fun _ => trivial, fun h => h (by decide)⟩ (fun _ => ?_) (fun h => h.elim)
                refine V_iconst hc dL_act_291 ?_
                refine V_icmp_ne (tgt := 300) (X := False) (Y := True) hc dL_act_292 (by decide) ⟨by decide, by decide, fun h => absurd h (by decide), fun _ => trivial⟩ (fun h => h.elim) (fun _ => ?_)
                refine V_iload hc dL_act_295 0 rfl ?_
                refine V_goto (tgt := 302) hc dL_act_297 (by decide) ?_
                refine V_widen (k1 := 8) (n1 := 48) (Nat.le_of_ble_eq_true rfl) (Nat.le_of_ble_eq_true rfl) ?_
                exact V_iret hc hr w2 ⟨_, aP_K (by omega) (jr_abn _) (Nat.le_succ _) (ivE_abandon hI h1), hW2⟩ rfl dL_act_302
          · rcases (show x / 16 % 3 = 0 ∨ x / 16 % 3 = 1 ∨ x / 16 % 3 = 2 by omega) with hw | hw | hw
            · by_cases hv : ab_val (x / 16 % 3) (5 + (((x / 16) / 3) % 100))
              · have hE9 := E_rng hI (s := x / 16 % 3) (by omega)
                refine V_iload_n hc dL_act_36 2 rfl ?_
                refine V_bipush hc dL_act_37 (by decide) ?_
                refine V_icmp_ge (tgt := 88) (X := True) (Y := False) hc dL_act_39 (by decide) ⟨by omega, by decide, fun _ => trivial, fun h => h (by omega)⟩ (fun _ => ?_) (fun h => h.elim)
                refine V_iload_n hc dL_act_88 2 rfl ?_
                refine V_bipush hc dL_act_89 (by decide) ?_
                refine V_icmp_ge (tgt := 140) (X := True) (Y := False) hc dL_act_91 (by decide) ⟨by omega, by decide, fun _ => trivial, fun h => h (by omega)⟩ (fun _ => ?_) (fun h => h.elim)
                refine V_iload_n hc dL_act_140 2 rfl ?_
                refine V_bipush hc dL_act_141 (by decide) ?_
                refine V_icmp_ne (tgt := 219) (X := True) (Y := False) hc dL_act_143 (by decide) ⟨by omega, by decide, fun _ => trivial, fun h => h (by omega)⟩ (fun _ => ?_) (fun h => h.elim)
                refine V_iload_n hc dL_act_219 2 rfl ?_
                refine V_bipush hc dL_act_220 (by decide) ?_
                refine V_icmp_ge (tgt := 303) (X := True) (Y := False) hc dL_act_222 (by decide) ⟨by omega, by decide, fun _ => trivial, fun h => h (by omega)⟩ (fun _ => ?_) (fun h => h.elim)
                refine V_iload_n hc dL_act_303 3 rfl ?_
                refine V_iconst hc dL_act_304 ?_
                refine V_irem (X := True) hc dL_act_305 ⟨by omega, by omega, trivial⟩ (fun _ => ?_)
                refine V_istore hc dL_act_306 [(5, .int (iI ((x / 16) % 3))), (0, .ref hB), (1, .int (iI x)), (2, .int (iI (x % 16))), (3, .int (iI (x / 16))), (4, .int (iI key))] (Nat.le_of_ble_eq_true rfl) rfl ?_
                refine V_aload_n hc dL_act_308 1 rfl ?_
                refine V_iconst hc dL_act_309 ?_
                refine V_iload hc dL_act_310 0 rfl ?_
                refine V_iload hc dL_act_312 0 rfl ?_
                refine V_if_ne (tgt := 328) (X := False) (Y := True) hc dL_act_314 (by decide) ⟨by omega, fun h => absurd h (by omega), fun _ => trivial⟩ (fun h => h.elim) (fun _ => ?_)
                refine V_iconst hc dL_act_317 ?_
                refine V_iload_n hc dL_act_318 4 rfl ?_
                refine V_iconst hc dL_act_319 ?_
                refine V_idiv (X := True) hc dL_act_320 ⟨by omega, by omega, trivial⟩ (fun _ => ?_)
                refine V_bipush hc dL_act_321 (by decide) ?_
                refine V_irem (X := True) hc dL_act_323 ⟨by omega, by omega, trivial⟩ (fun _ => ?_)
                refine V_iadd hc dL_act_324 ?_
                refine V_goto (tgt := 351) hc dL_act_325 (by decide) ?_
                refine V_lc (As := [.ref hB, .int (iI 4), .int (iI ((x / 16) % 3)), .int (iI (5 + (((x / 16) / 3) % 100)))]) (hh := [(0, 158, 159, 51), (0, 158, 164, 53), (0, 158, 169, 55)]) hc hG (lc_call_4 hl0 hCW hI (by omega) (by omega)) (as_E σ.1 ((x / 16) % 3).toNat) (sB σ (ab_set σ.1 ((x / 16) % 3) (5 + (((x / 16) / 3) % 100)))) (dk_set (by omega) hv) rfl gL_act_L_call rfl ⟨rfl, rfl⟩ ok_L_call ⟨Nat.le_of_ble_eq_true rfl, Nat.le_of_ble_eq_true rfl⟩ (Nat.le_of_ble_eq_true rfl) dL_act_351 ⟨Nat.le_of_ble_eq_true rfl, Nat.le_of_ble_eq_true rfl⟩ (fun w1 hW1 => ?_)
                refine V_widen (k1 := 8) (n1 := 48) (Nat.le_of_ble_eq_true rfl) (Nat.le_of_ble_eq_true rfl) ?_
                exact V_iret hc hr w1 ⟨_, aP_K (B := ab_set σ.1 (x / 16 % 3) (5 + (((x / 16) / 3) % 100))) (by omega) (fun q9 => hJ q9) (Nat.le_succ _) (ivE_set hI (by omega) hv), hW1⟩ rfl dL_act_354
              · refine V_iload_n hc dL_act_36 2 rfl ?_
                refine V_bipush hc dL_act_37 (by decide) ?_
                refine V_icmp_ge (tgt := 88) (X := True) (Y := False) hc dL_act_39 (by decide) ⟨by omega, by decide, fun _ => trivial, fun h => h (by omega)⟩ (fun _ => ?_) (fun h => h.elim)
                refine V_iload_n hc dL_act_88 2 rfl ?_
                refine V_bipush hc dL_act_89 (by decide) ?_
                refine V_icmp_ge (tgt := 140) (X := True) (Y := False) hc dL_act_91 (by decide) ⟨by omega, by decide, fun _ => trivial, fun h => h (by omega)⟩ (fun _ => ?_) (fun h => h.elim)
                refine V_iload_n hc dL_act_140 2 rfl ?_
                refine V_bipush hc dL_act_141 (by decide) ?_
                refine V_icmp_ne (tgt := 219) (X := True) (Y := False) hc dL_act_143 (by decide) ⟨by omega, by decide, fun _ => trivial, fun h => h (by omega)⟩ (fun _ => ?_) (fun h => h.elim)
                refine V_iload_n hc dL_act_219 2 rfl ?_
                refine V_bipush hc dL_act_220 (by decide) ?_
                refine V_icmp_ge (tgt := 303) (X := True) (Y := False) hc dL_act_222 (by decide) ⟨by omega, by decide, fun _ => trivial, fun h => h (by omega)⟩ (fun _ => ?_) (fun h => h.elim)
                refine V_iload_n hc dL_act_303 3 rfl ?_
                refine V_iconst hc dL_act_304 ?_
                refine V_irem (X := True) hc dL_act_305 ⟨by omega, by omega, trivial⟩ (fun _ => ?_)
                refine V_istore hc dL_act_306 [(5, .int (iI ((x / 16) % 3))), (0, .ref hB), (1, .int (iI x)), (2, .int (iI (x % 16))), (3, .int (iI (x / 16))), (4, .int (iI key))] (Nat.le_of_ble_eq_true rfl) rfl ?_
                refine V_aload_n hc dL_act_308 1 rfl ?_
                refine V_iconst hc dL_act_309 ?_
                refine V_iload hc dL_act_310 0 rfl ?_
                refine V_iload hc dL_act_312 0 rfl ?_
                refine V_if_ne (tgt := 328) (X := False) (Y := True) hc dL_act_314 (by decide) ⟨by omega, fun h => absurd h (by omega), fun _ => trivial⟩ (fun h => h.elim) (fun _ => ?_)
                refine V_iconst hc dL_act_317 ?_
                refine V_iload_n hc dL_act_318 4 rfl ?_
                refine V_iconst hc dL_act_319 ?_
                refine V_idiv (X := True) hc dL_act_320 ⟨by omega, by omega, trivial⟩ (fun _ => ?_)
                refine V_bipush hc dL_act_321 (by decide) ?_
                refine V_irem (X := True) hc dL_act_323 ⟨by omega, by omega, trivial⟩ (fun _ => ?_)
                refine V_iadd hc dL_act_324 ?_
                refine V_goto (tgt := 351) hc dL_act_325 (by decide) ?_
                refine V_lc (As := [.ref hB, .int (iI 4), .int (iI ((x / 16) % 3)), .int (iI (5 + (((x / 16) / 3) % 100)))]) (hh := [(0, 158, 159, 51), (0, 158, 164, 53), (0, 158, 169, 55)]) hc hG (lc_call_4 hl0 hCW hI (by omega) (by omega)) (-11) σ (dr_setV (by omega) hv) rfl gL_act_L_call rfl ⟨rfl, rfl⟩ ok_L_call ⟨Nat.le_of_ble_eq_true rfl, Nat.le_of_ble_eq_true rfl⟩ (Nat.le_of_ble_eq_true rfl) dL_act_351 ⟨Nat.le_of_ble_eq_true rfl, Nat.le_of_ble_eq_true rfl⟩ (fun w1 hW1 => ?_)
                refine V_widen (k1 := 8) (n1 := 48) (Nat.le_of_ble_eq_true rfl) (Nat.le_of_ble_eq_true rfl) ?_
                exact V_iret hc hr w1 ⟨_, aP_R (by decide), hW1⟩ rfl dL_act_354
            · by_cases hv : ab_val (x / 16 % 3) (1 + (((x / 16) / 3) % 45))
              · have hE9 := E_rng hI (s := x / 16 % 3) (by omega)
                refine V_iload_n hc dL_act_36 2 rfl ?_
                refine V_bipush hc dL_act_37 (by decide) ?_
                refine V_icmp_ge (tgt := 88) (X := True) (Y := False) hc dL_act_39 (by decide) ⟨by omega, by decide, fun _ => trivial, fun h => h (by omega)⟩ (fun _ => ?_) (fun h => h.elim)
                refine V_iload_n hc dL_act_88 2 rfl ?_
                refine V_bipush hc dL_act_89 (by decide) ?_
                refine V_icmp_ge (tgt := 140) (X := True) (Y := False) hc dL_act_91 (by decide) ⟨by omega, by decide, fun _ => trivial, fun h => h (by omega)⟩ (fun _ => ?_) (fun h => h.elim)
                refine V_iload_n hc dL_act_140 2 rfl ?_
                refine V_bipush hc dL_act_141 (by decide) ?_
                refine V_icmp_ne (tgt := 219) (X := True) (Y := False) hc dL_act_143 (by decide) ⟨by omega, by decide, fun _ => trivial, fun h => h (by omega)⟩ (fun _ => ?_) (fun h => h.elim)
                refine V_iload_n hc dL_act_219 2 rfl ?_
                refine V_bipush hc dL_act_220 (by decide) ?_
                refine V_icmp_ge (tgt := 303) (X := True) (Y := False) hc dL_act_222 (by decide) ⟨by omega, by decide, fun _ => trivial, fun h => h (by omega)⟩ (fun _ => ?_) (fun h => h.elim)
                refine V_iload_n hc dL_act_303 3 rfl ?_
                refine V_iconst hc dL_act_304 ?_
                refine V_irem (X := True) hc dL_act_305 ⟨by omega, by omega, trivial⟩ (fun _ => ?_)
                refine V_istore hc dL_act_306 [(5, .int (iI ((x / 16) % 3))), (0, .ref hB), (1, .int (iI x)), (2, .int (iI (x % 16))), (3, .int (iI (x / 16))), (4, .int (iI key))] (Nat.le_of_ble_eq_true rfl) rfl ?_
                refine V_aload_n hc dL_act_308 1 rfl ?_
                refine V_iconst hc dL_act_309 ?_
                refine V_iload hc dL_act_310 0 rfl ?_
                refine V_iload hc dL_act_312 0 rfl ?_
                refine V_if_ne (tgt := 328) (X := True) (Y := False) hc dL_act_314 (by decide) ⟨by omega, fun _ => trivial, fun h => h (by omega)⟩ (fun _ => ?_) (fun h => h.elim)
                refine V_iload hc dL_act_328 0 rfl ?_
                refine V_iconst hc dL_act_330 ?_
                refine V_neF (tgt := 345) hc dL_act_331 (by decide) (by omega) ?_
                refine V_iconst hc dL_act_334 ?_
                refine V_iload_n hc dL_act_335 4 rfl ?_
                refine V_iconst hc dL_act_336 ?_
                refine V_idiv (X := True) hc dL_act_337 ⟨by omega, by omega, trivial⟩ (fun _ => ?_)
                refine V_bipush hc dL_act_338 (by decide) ?_
                refine V_irem (X := True) hc dL_act_340 ⟨by omega, by omega, trivial⟩ (fun _ => ?_)
                refine V_iadd hc dL_act_341 ?_
                refine V_goto (tgt := 351) hc dL_act_342 (by decide) ?_
                refine V_lc (As := [.ref hB, .int (iI 4), .int (iI ((x / 16) % 3)), .int (iI (1 + (((x / 16) / 3) % 45)))]) (hh := [(0, 158, 159, 51), (0, 158, 164, 53), (0, 158, 169, 55)]) hc hG (lc_call_4 hl0 hCW hI (by omega) (by omega)) (as_E σ.1 ((x / 16) % 3).toNat) (sB σ (ab_set σ.1 ((x / 16) % 3) (1 + (((x / 16) / 3) % 45)))) (dk_set (by omega) hv) rfl gL_act_L_call rfl ⟨rfl, rfl⟩ ok_L_call ⟨Nat.le_of_ble_eq_true rfl, Nat.le_of_ble_eq_true rfl⟩ (Nat.le_of_ble_eq_true rfl) dL_act_351 ⟨Nat.le_of_ble_eq_true rfl, Nat.le_of_ble_eq_true rfl⟩ (fun w1 hW1 => ?_)
                refine V_widen (k1 := 8) (n1 := 48) (Nat.le_of_ble_eq_true rfl) (Nat.le_of_ble_eq_true rfl) ?_
                exact V_iret hc hr w1 ⟨_, aP_K (B := ab_set σ.1 (x / 16 % 3) (1 + (((x / 16) / 3) % 45))) (by omega) (fun q9 => hJ q9) (Nat.le_succ _) (ivE_set hI (by omega) hv), hW1⟩ rfl dL_act_354
              · refine V_iload_n hc dL_act_36 2 rfl ?_
                refine V_bipush hc dL_act_37 (by decide) ?_
                refine V_icmp_ge (tgt := 88) (X := True) (Y := False) hc dL_act_39 (by decide) ⟨by omega, by decide, fun _ => trivial, fun h => h (by omega)⟩ (fun _ => ?_) (fun h => h.elim)
                refine V_iload_n hc dL_act_88 2 rfl ?_
                refine V_bipush hc dL_act_89 (by decide) ?_
                refine V_icmp_ge (tgt := 140) (X := True) (Y := False) hc dL_act_91 (by decide) ⟨by omega, by decide, fun _ => trivial, fun h => h (by omega)⟩ (fun _ => ?_) (fun h => h.elim)
                refine V_iload_n hc dL_act_140 2 rfl ?_
                refine V_bipush hc dL_act_141 (by decide) ?_
                refine V_icmp_ne (tgt := 219) (X := True) (Y := False) hc dL_act_143 (by decide) ⟨by omega, by decide, fun _ => trivial, fun h => h (by omega)⟩ (fun _ => ?_) (fun h => h.elim)
                refine V_iload_n hc dL_act_219 2 rfl ?_
                refine V_bipush hc dL_act_220 (by decide) ?_
                refine V_icmp_ge (tgt := 303) (X := True) (Y := False) hc dL_act_222 (by decide) ⟨by omega, by decide, fun _ => trivial, fun h => h (by omega)⟩ (fun _ => ?_) (fun h => h.elim)
                refine V_iload_n hc dL_act_303 3 rfl ?_
                refine V_iconst hc dL_act_304 ?_
                refine V_irem (X := True) hc dL_act_305 ⟨by omega, by omega, trivial⟩ (fun _ => ?_)
                refine V_istore hc dL_act_306 [(5, .int (iI ((x / 16) % 3))), (0, .ref hB), (1, .int (iI x)), (2, .int (iI (x % 16))), (3, .int (iI (x / 16))), (4, .int (iI key))] (Nat.le_of_ble_eq_true rfl) rfl ?_
                refine V_aload_n hc dL_act_308 1 rfl ?_
                refine V_iconst hc dL_act_309 ?_
                refine V_iload hc dL_act_310 0 rfl ?_
                refine V_iload hc dL_act_312 0 rfl ?_
                refine V_if_ne (tgt := 328) (X := True) (Y := False) hc dL_act_314 (by decide) ⟨by omega, fun _ => trivial, fun h => h (by omega)⟩ (fun _ => ?_) (fun h => h.elim)
                refine V_iload hc dL_act_328 0 rfl ?_
                refine V_iconst hc dL_act_330 ?_
                refine V_neF (tgt := 345) hc dL_act_331 (by decide) (by omega) ?_
                refine V_iconst hc dL_act_334 ?_
                refine V_iload_n hc dL_act_335 4 rfl ?_
                refine V_iconst hc dL_act_336 ?_
                refine V_idiv (X := True) hc dL_act_337 ⟨by omega, by omega, trivial⟩ (fun _ => ?_)
                refine V_bipush hc dL_act_338 (by decide) ?_
                refine V_irem (X := True) hc dL_act_340 ⟨by omega, by omega, trivial⟩ (fun _ => ?_)
                refine V_iadd hc dL_act_341 ?_
                refine V_goto (tgt := 351) hc dL_act_342 (by decide) ?_
                refine V_lc (As := [.ref hB, .int (iI 4), .int (iI ((x / 16) % 3)), .int (iI (1 + (((x / 16) / 3) % 45)))]) (hh := [(0, 158, 159, 51), (0, 158, 164, 53), (0, 158, 169, 55)]) hc hG (lc_call_4 hl0 hCW hI (by omega) (by omega)) (-11) σ (dr_setV (by omega) hv) rfl gL_act_L_call rfl ⟨rfl, rfl⟩ ok_L_call ⟨Nat.le_of_ble_eq_true rfl, Nat.le_of_ble_eq_true rfl⟩ (Nat.le_of_ble_eq_true rfl) dL_act_351 ⟨Nat.le_of_ble_eq_true rfl, Nat.le_of_ble_eq_true rfl⟩ (fun w1 hW1 => ?_)
                refine V_widen (k1 := 8) (n1 := 48) (Nat.le_of_ble_eq_true rfl) (Nat.le_of_ble_eq_true rfl) ?_
                exact V_iret hc hr w1 ⟨_, aP_R (by decide), hW1⟩ rfl dL_act_354
            · by_cases hv : ab_val (x / 16 % 3) (((x / 16) / 3) % 11)
              · have hE9 := E_rng hI (s := x / 16 % 3) (by omega)
                refine V_iload_n hc dL_act_36 2 rfl ?_
                refine V_bipush hc dL_act_37 (by decide) ?_
                refine V_icmp_ge (tgt := 88) (X := True) (Y := False) hc dL_act_39 (by decide) ⟨by omega, by decide, fun _ => trivial, fun h => h (by omega)⟩ (fun _ => ?_) (fun h => h.elim)
                refine V_iload_n hc dL_act_88 2 rfl ?_
                refine V_bipush hc dL_act_89 (by decide) ?_
                refine V_icmp_ge (tgt := 140) (X := True) (Y := False) hc dL_act_91 (by decide) ⟨by omega, by decide, fun _ => trivial, fun h => h (by omega)⟩ (fun _ => ?_) (fun h => h.elim)
                refine V_iload_n hc dL_act_140 2 rfl ?_
                refine V_bipush hc dL_act_141 (by decide) ?_
                refine V_icmp_ne (tgt := 219) (X := True) (Y := False) hc dL_act_143 (by decide) ⟨by omega, by decide, fun _ => trivial, fun h => h (by omega)⟩ (fun _ => ?_) (fun h => h.elim)
                refine V_iload_n hc dL_act_219 2 rfl ?_
                refine V_bipush hc dL_act_220 (by decide) ?_
                refine V_icmp_ge (tgt := 303) (X := True) (Y := False) hc dL_act_222 (by decide) ⟨by omega, by decide, fun _ => trivial, fun h => h (by omega)⟩ (fun _ => ?_) (fun h => h.elim)
                refine V_iload_n hc dL_act_303 3 rfl ?_
                refine V_iconst hc dL_act_304 ?_
                refine V_irem (X := True) hc dL_act_305 ⟨by omega, by omega, trivial⟩ (fun _ => ?_)
                refine V_istore hc dL_act_306 [(5, .int (iI ((x / 16) % 3))), (0, .ref hB), (1, .int (iI x)), (2, .int (iI (x % 16))), (3, .int (iI (x / 16))), (4, .int (iI key))] (Nat.le_of_ble_eq_true rfl) rfl ?_
                refine V_aload_n hc dL_act_308 1 rfl ?_
                refine V_iconst hc dL_act_309 ?_
                refine V_iload hc dL_act_310 0 rfl ?_
                refine V_iload hc dL_act_312 0 rfl ?_
                refine V_if_ne (tgt := 328) (X := True) (Y := False) hc dL_act_314 (by decide) ⟨by omega, fun _ => trivial, fun h => h (by omega)⟩ (fun _ => ?_) (fun h => h.elim)
                refine V_iload hc dL_act_328 0 rfl ?_
                refine V_iconst hc dL_act_330 ?_
                refine V_icmp_ne (tgt := 345) (X := True) (Y := False) hc dL_act_331 (by decide) ⟨by omega, by decide, fun _ => trivial, fun h => h (by omega)⟩ (fun _ => ?_) (fun h => h.elim)
                refine V_iload_n hc dL_act_345 4 rfl ?_
                refine V_iconst hc dL_act_346 ?_
                refine V_idiv (X := True) hc dL_act_347 ⟨by omega, by omega, trivial⟩ (fun _ => ?_)
                refine V_bipush hc dL_act_348 (by decide) ?_
                refine V_irem (X := True) hc dL_act_350 ⟨by omega, by omega, trivial⟩ (fun _ => ?_)
                refine V_lc (As := [.ref hB, .int (iI 4), .int (iI ((x / 16) % 3)), .int (iI (((x / 16) / 3) % 11))]) (hh := [(0, 158, 159, 51), (0, 158, 164, 53), (0, 158, 169, 55)]) hc hG (lc_call_4 hl0 hCW hI (by omega) (by omega)) (as_E σ.1 ((x / 16) % 3).toNat) (sB σ (ab_set σ.1 ((x / 16) % 3) (((x / 16) / 3) % 11))) (dk_set (by omega) hv) rfl gL_act_L_call rfl ⟨rfl, rfl⟩ ok_L_call ⟨Nat.le_of_ble_eq_true rfl, Nat.le_of_ble_eq_true rfl⟩ (Nat.le_of_ble_eq_true rfl) dL_act_351 ⟨Nat.le_of_ble_eq_true rfl, Nat.le_of_ble_eq_true rfl⟩ (fun w1 hW1 => ?_)
                refine V_widen (k1 := 8) (n1 := 48) (Nat.le_of_ble_eq_true rfl) (Nat.le_of_ble_eq_true rfl) ?_
                exact V_iret hc hr w1 ⟨_, aP_K (B := ab_set σ.1 (x / 16 % 3) (((x / 16) / 3) % 11)) (by omega) (fun q9 => hJ q9) (Nat.le_succ _) (ivE_set hI (by omega) hv), hW1⟩ rfl dL_act_354
              · refine V_iload_n hc dL_act_36 2 rfl ?_
                refine V_bipush hc dL_act_37 (by decide) ?_
                refine V_icmp_ge (tgt := 88) (X := True) (Y := False) hc dL_act_39 (by decide) ⟨by omega, by decide, fun _ => trivial, fun h => h (by omega)⟩ (fun _ => ?_) (fun h => h.elim)
                refine V_iload_n hc dL_act_88 2 rfl ?_
                refine V_bipush hc dL_act_89 (by decide) ?_
                refine V_icmp_ge (tgt := 140) (X := True) (Y := False) hc dL_act_91 (by decide) ⟨by omega, by decide, fun _ => trivial, fun h => h (by omega)⟩ (fun _ => ?_) (fun h => h.elim)
                refine V_iload_n hc dL_act_140 2 rfl ?_
                refine V_bipush hc dL_act_141 (by decide) ?_
                refine V_icmp_ne (tgt := 219) (X := True) (Y := False) hc dL_act_143 (by decide) ⟨by omega, by decide, fun _ => trivial, fun h => h (by omega)⟩ (fun _ => ?_) (fun h => h.elim)
                refine V_iload_n hc dL_act_219 2 rfl ?_
                refine V_bipush hc dL_act_220 (by decide) ?_
                refine V_icmp_ge (tgt := 303) (X := True) (Y := False) hc dL_act_222 (by decide) ⟨by omega, by decide, fun _ => trivial, fun h => h (by omega)⟩ (fun _ => ?_) (fun h => h.elim)
                refine V_iload_n hc dL_act_303 3 rfl ?_
                refine V_iconst hc dL_act_304 ?_
                refine V_irem (X := True) hc dL_act_305 ⟨by omega, by omega, trivial⟩ (fun _ => ?_)
                refine V_istore hc dL_act_306 [(5, .int (iI ((x / 16) % 3))), (0, .ref hB), (1, .int (iI x)), (2, .int (iI (x % 16))), (3, .int (iI (x / 16))), (4, .int (iI key))] (Nat.le_of_ble_eq_true rfl) rfl ?_
                refine V_aload_n hc dL_act_308 1 rfl ?_
                refine V_iconst hc dL_act_309 ?_
                refine V_iload hc dL_act_310 0 rfl ?_
                refine V_iload hc dL_act_312 0 rfl ?_
                refine V_if_ne (tgt := 328) (X := True) (Y := False) hc dL_act_314 (by decide) ⟨by omega, fun _ => trivial, fun h => h (by omega)⟩ (fun _ => ?_) (fun h => h.elim)
                refine V_iload hc dL_act_328 0 rfl ?_
                refine V_iconst hc dL_act_330 ?_
                refine V_icmp_ne (tgt := 345) (X := True) (Y := False) hc dL_act_331 (by decide) ⟨by omega, by decide, fun _ => trivial, fun h => h (by omega)⟩ (fun _ => ?_) (fun h => h.elim)
                refine V_iload_n hc dL_act_345 4 rfl ?_
                refine V_iconst hc dL_act_346 ?_
                refine V_idiv (X := True) hc dL_act_347 ⟨by omega, by omega, trivial⟩ (fun _ => ?_)
                refine V_bipush hc dL_act_348 (by decide) ?_
                refine V_irem (X := True) hc dL_act_350 ⟨by omega, by omega, trivial⟩ (fun _ => ?_)
                refine V_lc (As := [.ref hB, .int (iI 4), .int (iI ((x / 16) % 3)), .int (iI (((x / 16) / 3) % 11))]) (hh := [(0, 158, 159, 51), (0, 158, 164, 53), (0, 158, 169, 55)]) hc hG (lc_call_4 hl0 hCW hI (by omega) (by omega)) (-11) σ (dr_setV (by omega) hv) rfl gL_act_L_call rfl ⟨rfl, rfl⟩ ok_L_call ⟨Nat.le_of_ble_eq_true rfl, Nat.le_of_ble_eq_true rfl⟩ (Nat.le_of_ble_eq_true rfl) dL_act_351 ⟨Nat.le_of_ble_eq_true rfl, Nat.le_of_ble_eq_true rfl⟩ (fun w1 hW1 => ?_)
                refine V_widen (k1 := 8) (n1 := 48) (Nat.le_of_ble_eq_true rfl) (Nat.le_of_ble_eq_true rfl) ?_
                exact V_iret hc hr w1 ⟨_, aP_R (by decide), hW1⟩ rfl dL_act_354
  refine V_lv [0, 1] [(0, .ref hB), (1, .int (iI x))] rfl ?_
  rcases (show x / 16 % 3 = 0 ∨ ¬ x / 16 % 3 = 0 by omega) with hy | hy
  · refine V_iload_n hc dL_act_0 1 rfl ?_
    refine V_bipush hc dL_act_1 (by decide) ?_
    refine V_irem (X := True) hc dL_act_3 ⟨by omega, by omega, trivial⟩ (fun _ => ?_)
    refine V_istore_n hc dL_act_4 [(2, .int (iI (x % 16))), (0, .ref hB), (1, .int (iI x))] (Nat.le_of_ble_eq_true rfl) rfl ?_
    refine V_iload_n hc dL_act_5 2 rfl ?_
    refine V_bipush hc dL_act_6 (by decide) ?_
    refine V_idiv (X := True) hc dL_act_8 ⟨by omega, by omega, trivial⟩ (fun _ => ?_)
    refine V_istore_n hc dL_act_9 [(3, .int (iI (x / 16))), (2, .int (iI (x % 16))), (0, .ref hB), (1, .int (iI x))] (Nat.le_of_ble_eq_true rfl) rfl ?_
    refine V_iload_n hc dL_act_10 0 rfl ?_
    refine V_iconst hc dL_act_11 ?_
    refine V_irem (X := True) hc dL_act_12 ⟨by omega, by omega, trivial⟩ (fun _ => ?_)
    refine V_if_ne (tgt := 26) (X := False) (Y := True) hc dL_act_13 (by decide) ⟨by omega, fun h => absurd h (by omega), fun _ => trivial⟩ (fun h => h.elim) (fun _ => ?_)
    refine V_iload_n hc dL_act_16 0 rfl ?_
    refine V_iconst hc dL_act_17 ?_
    refine V_idiv (X := True) hc dL_act_18 ⟨by omega, by omega, trivial⟩ (fun _ => ?_)
    refine V_sipush hc dL_act_19 (by decide) ?_
    refine V_irem (X := True) hc dL_act_22 ⟨by omega, by omega, trivial⟩ (fun _ => ?_)
    refine V_goto (tgt := 34) hc dL_act_23 (by decide) ?_
    refine V_istore hc dL_act_34 [(4, .int (iI (((x / 16) / 3) % 500))), (3, .int (iI (x / 16))), (2, .int (iI (x % 16))), (0, .ref hB), (1, .int (iI x))] (Nat.le_of_ble_eq_true rfl) rfl ?_
    refine V_lv [3, 4, 2, 1, 0] [(0, .ref hB), (1, .int (iI x)), (2, .int (iI (x % 16))), (3, .int (iI (x / 16))), (4, .int (iI (((x / 16) / 3) % 500)))] rfl ?_
    exact M36 (((x / 16) / 3) % 500) (by omega)
  · refine V_iload_n hc dL_act_0 1 rfl ?_
    refine V_bipush hc dL_act_1 (by decide) ?_
    refine V_irem (X := True) hc dL_act_3 ⟨by omega, by omega, trivial⟩ (fun _ => ?_)
    refine V_istore_n hc dL_act_4 [(2, .int (iI (x % 16))), (0, .ref hB), (1, .int (iI x))] (Nat.le_of_ble_eq_true rfl) rfl ?_
    refine V_iload_n hc dL_act_5 2 rfl ?_
    refine V_bipush hc dL_act_6 (by decide) ?_
    refine V_idiv (X := True) hc dL_act_8 ⟨by omega, by omega, trivial⟩ (fun _ => ?_)
    refine V_istore_n hc dL_act_9 [(3, .int (iI (x / 16))), (2, .int (iI (x % 16))), (0, .ref hB), (1, .int (iI x))] (Nat.le_of_ble_eq_true rfl) rfl ?_
    refine V_iload_n hc dL_act_10 0 rfl ?_
    refine V_iconst hc dL_act_11 ?_
    refine V_irem (X := True) hc dL_act_12 ⟨by omega, by omega, trivial⟩ (fun _ => ?_)
    refine V_if_ne (tgt := 26) (X := True) (Y := False) hc dL_act_13 (by decide) ⟨by omega, fun _ => trivial, fun h => h (by omega)⟩ (fun _ => ?_) (fun h => h.elim)
    refine V_iload_n hc dL_act_26 0 rfl ?_
    refine V_iconst hc dL_act_27 ?_
    refine V_idiv (X := True) hc dL_act_28 ⟨by omega, by omega, trivial⟩ (fun _ => ?_)
    refine V_bipush hc dL_act_29 (by decide) ?_
    refine V_irem (X := True) hc dL_act_31 ⟨by omega, by omega, trivial⟩ (fun _ => ?_)
    refine V_iconst hc dL_act_32 ?_
    refine V_imul hc dL_act_33 ?_
    refine V_istore hc dL_act_34 [(4, .int (iI ((((x / 16) / 3) % 30) * 5))), (3, .int (iI (x / 16))), (2, .int (iI (x % 16))), (0, .ref hB), (1, .int (iI x))] (Nat.le_of_ble_eq_true rfl) rfl ?_
    refine V_lv [3, 4, 2, 1, 0] [(0, .ref hB), (1, .int (iI x)), (2, .int (iI (x % 16))), (3, .int (iI (x / 16))), (4, .int (iI ((((x / 16) / 3) % 30) * 5)))] rfl ?_
    exact M36 ((((x / 16) / 3) % 30) * 5) (by omega)
