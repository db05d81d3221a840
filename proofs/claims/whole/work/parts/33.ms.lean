/-! doubles that are no NaN; meanDepth of both sides -/
theorem fq_t : FP.Core.b64.tails = 4503599627370496 := by decide
theorem fq_e : FP.Core.b64.exps = 2048 := by decide
theorem fq_qmin : FP.Core.b64.qmin = -1074 := by decide
theorem fq_qmax : FP.Core.b64.qmax = 971 := by decide
theorem fq_p : 2 ^ FP.Core.b64.p = 9007199254740992 := by decide
abbrev fq_ok (n : Nat) : Prop := n % 9223372036854775808 ≤ 9218868437227405312 ∧ n < 18446744073709551616
theorem fq_as (s : Bool) (e t : Nat) (h : e * 4503599627370496 + t ≤ 9218868437227405312) : fq_ok (FP.Core.assemble FP.Core.b64 s e t) := by
  unfold FP.Core.assemble
  rw [fq_t, fq_e]
  cases s
  · rw [show (false.toNat) = 0 from rfl]
    constructor <;> omega
  · rw [show (true.toNat) = 1 from rfl]
    constructor <;> omega
theorem fq_fin (s : Bool) (c : Nat) (q : Int) (hc : c < 9007199254740992) (hq : q ≤ 971) : fq_ok (FP.Core.encode FP.Core.b64 (.fin s c q)) := by
  show fq_ok (if c < FP.Core.b64.tails then FP.Core.assemble FP.Core.b64 s 0 c else FP.Core.assemble FP.Core.b64 s ((q - FP.Core.b64.qmin).toNat + 1) (c - FP.Core.b64.tails))
  rw [fq_t, fq_qmin]
  split
  · exact fq_as _ _ _ (by omega)
  · exact fq_as _ _ _ (by omega)
theorem fq_inf (s : Bool) : fq_ok (FP.Core.encode FP.Core.b64 (.inf s)) := by
  show fq_ok (FP.Core.assemble FP.Core.b64 s (FP.Core.b64.exps - 1) 0)
  rw [fq_e]
  exact fq_as _ _ _ (by omega)
theorem fq_bound (s : Bool) (c : Nat) (q : Int) (hc : c < 9007199254740992) : fq_ok (FP.Core.encode FP.Core.b64 (FP.Core.bound FP.Core.b64 s c q)) := by
  unfold FP.Core.bound
  rw [fq_qmax]
  split
  · exact fq_fin _ _ _ hc (by assumption)
  · exact fq_inf _
theorem fq_ratio (s : Bool) (num den : Nat) (e : Int) : fq_ok (FP.Core.encode FP.Core.b64 (FP.Core.roundRatio FP.Core.b64 s num den e)) := by
  unfold FP.Core.roundRatio
  split
  · rw [fq_qmin]
    exact fq_fin _ _ _ (by omega) (by omega)
  · unfold FP.Core.roundAt
    generalize FP.Core.nearest _ _ = c
    generalize FP.Core.quantum _ _ _ _ = q
    unfold FP.Core.settle
    rw [fq_p, fq_t]
    split
    · exact fq_bound _ _ _ (by assumption)
    · exact fq_bound _ _ _ (by omega)
theorem fq_dec {n : Nat} (h : fq_ok n) : FP.Core.decode FP.Core.b64 n ≠ .nan := by
  intro q
  unfold FP.Core.decode at q
  have e1 : FP.Core.fieldE FP.Core.b64 n = n / 4503599627370496 % 2048 := by unfold FP.Core.fieldE; rw [fq_t, fq_e]
  have e2 : FP.Core.fieldT FP.Core.b64 n = n % 4503599627370496 := by unfold FP.Core.fieldT; rw [fq_t]
  rw [e1, e2, fq_e] at q
  split at q
  · split at q
    · cases q
    · have := h.1
      omega
  · split at q <;> cases q
theorem fq_n64 {x : UInt64} (h : fq_ok x.toNat) : vf_n64 x := by
  unfold vf_n64
  rw [UInt64.le_iff_toNat_le, UInt64.toNat_and]
  have h1 : (0x7fffffffffffffff : UInt64).toNat = 2 ^ 63 - 1 := by decide
  have h2 : (0x7ff0000000000000 : UInt64).toNat = 9218868437227405312 := by decide
  rw [h1, h2, Nat.and_two_pow_sub_one_eq_mod]
  exact h.1
theorem fq_of {n : Nat} (h : fq_ok n) : (UInt64.ofNat n).toNat = n := by
  rw [UInt64.toNat_ofNat']
  exact Nat.mod_eq_of_lt h.2
theorem fq_i2d (v : Int32) : fq_ok (FP.i2d v).toNat := by
  have h : fq_ok (FP.Core.fromInt FP.Core.b64 v.toInt) := fq_ratio _ _ _ _
  show fq_ok (UInt64.ofNat (FP.Core.fromInt FP.Core.b64 v.toInt)).toNat
  rw [fq_of h]
  exact h
def fq_nz (d : FP.Core.Datum) : Bool := match d with | .fin _ c _ => c != 0 | _ => false
theorem fq_small : ∀ n : Fin 120, fq_nz (FP.Core.decode FP.Core.b64 (FP.i2d (iI ((n.val : Int) + 1))).toNat) = true := by decide +kernel
theorem fq_div {a b : UInt64} (ha : fq_ok a.toNat) (hb : fq_nz (FP.Core.decode FP.Core.b64 b.toNat) = true) : fq_ok (FP.ddiv a b).toNat := by
  have h : fq_ok (FP.Core.div FP.Core.b64 a.toNat b.toNat) := by
    unfold FP.Core.div
    have h1 := fq_dec ha
    generalize FP.Core.decode FP.Core.b64 a.toNat = x at h1 ⊢
    generalize FP.Core.decode FP.Core.b64 b.toNat = y at hb ⊢
    match x, y, h1, hb with
    | .nan, _, h1, _ => exact absurd rfl h1
    | .inf s, .fin t d r, _, _ => exact fq_inf _
    | .fin s c q, .fin t d r, _, hb =>
      have hd : d ≠ 0 := by
        intro e
        subst e
        cases hb
      show fq_ok (FP.Core.encode FP.Core.b64 (if d = 0 then (if c = 0 then .nan else .inf (s != t)) else FP.Core.roundRatio FP.Core.b64 (s != t) c d (q - r)))
      rw [if_neg hd]
      exact fq_ratio _ _ _ _
  show fq_ok (UInt64.ofNat (FP.Core.div FP.Core.b64 a.toNat b.toNat)).toNat
  rw [fq_of h]
  exact h
theorem fq_mean (S : Int) {n : Int} (h : 1 ≤ n ∧ n ≤ 120) : fq_ok (FP.ddiv (FP.i2d (iI S)) (FP.i2d (iI n))).toNat := by
  refine fq_div (fq_i2d _) ?_
  have := fq_small ⟨(n - 1).toNat, by omega⟩
  rw [show (((n - 1).toNat : Nat) : Int) + 1 = n by omega] at this
  exact this
theorem fq_cmp {x : UInt64} (h : fq_ok x.toNat) : FP.dcmp x x = some .eq := by
  have h1 := fq_dec h
  show FP.Core.order (FP.Core.decode FP.Core.b64 x.toNat) (FP.Core.decode FP.Core.b64 x.toNat) = some .eq
  generalize FP.Core.decode FP.Core.b64 x.toNat = d at h1 ⊢
  match d, h1 with
  | .nan, h1 => exact absurd rfl h1
  | .inf s, _ =>
    show some (compare _ _) = some Ordering.eq
    rw [Int.compare_eq_eq.mpr rfl]
  | .fin s c q, _ =>
    show some (compare _ _) = some Ordering.eq
    rw [Int.compare_eq_eq.mpr rfl]
def dM (S n : Int) : UInt64 := if n ≠ 0 then FP.ddiv (FP.i2d (iI S)) (FP.i2d (iI n)) else FP.dconst0
theorem dM_ok (S : Int) {n : Int} (h : 0 ≤ n ∧ n ≤ 120) : fq_ok (dM S n).toNat := by
  unfold dM
  split
  · exact fq_mean S (by omega)
  · decide
def ab_md (A : aS) : UInt64 := dM (ab_dsump (as_T A).1 (as_T A).2) (ab_np (as_T A).1 (as_T A).2)
theorem ab_md_ok {b : Int} {A : aS} (hI : ab_I b A) : fq_ok (ab_md A).toNat := by
  have h1 := ab_np_le (as_T A).1 (as_T A).2
  have h2 := hI.1.2.2.1
  exact dM_ok _ (by omega)
section PS
variable {n nl nc nw ru ns : Int} {k d m ks ds ms li qu se co : Nat → Int} {A : aS} {b : Int} {z : Nat → Int} {thr : Int}
theorem sp_X4_meanDepth (hC : ab_CS n k d m nl nc nw ru ns ks ds ms li qu se co A) (hI : ab_I b A) {Q : UInt64 → Prop} (hQ : Q (ab_md A)) : wp_X4_meanDepth n d m Q := by
  have h1 := ab_np_le (as_T A).1 (as_T A).2
  have h2 := hI.1.2.2.1
  unfold wp_X4_meanDepth
  refine sp_X3_presentKeys hC.1 hI.1 ⟨by omega, fun h => sp_X3_sumOfDepths hC.1 hI.1 (Or.inl rfl) ?_, fun h => ?_⟩
  · rw [if_pos rfl]
    refine ⟨fq_n64 (fq_mean _ (by omega)), ?_⟩
    unfold ab_md dM at hQ
    rw [if_pos h] at hQ
    exact hQ
  · unfold ab_md dM at hQ
    rw [if_neg h] at hQ
    exact hQ
theorem sp_X5_meanDepth (h : ab_MS z A) (hI : ab_I b A) {nvi low high : Int} {vi : Nat → Int} {Q : UInt64 → Int → Int → Int → Int → (Nat → Int) → Prop} (hQ : ∀ nvi low high vi, Q (ab_md A) 0 nvi low high vi) : wp_X5_meanDepth thr nvi low high z vi Q := by
  have hm := h.1
  have hg := hI.1
  have hz : z 0 = ((as_T A).1.length : Int) := hm.1
  have hl := hg.2.2.1
  unfold ab_md ab_dsump ab_np at hQ
  generalize (as_T A).1 = L at *
  generalize (as_T A).2 = mk at *
  have main : ∀ (S : List Int) (i : Nat) (acc cnt nvi low high : Int) (vi : Nat → Int), L.drop i = S → i ≤ L.length → (0 ≤ cnt ∧ cnt ≤ (i : Int)) → (∀ (nvi low high : Int) (vi : Nat → Int), Q (dM (S.foldl (fun g y => if mk y = 0 then g + ab_dep L y else g) acc) (cnt + (S.countP (fun y => decide (mk y = 0)) : Nat))) 0 nvi low high vi) → lq7 (wp_X5_meanDepth_11 0 z Q) (S.length + 1) nvi low high vi acc cnt (i : Int) := by
    intro S
    induction S with
    | nil =>
      intro i acc cnt nvi low high vi hS hi hcn q
      have h9 := ab_drop_nil hS
      show wp_X5_meanDepth_11 0 z Q (lq7 (wp_X5_meanDepth_11 0 z Q) 0) nvi low high vi acc cnt (i : Int)
      have q := q nvi low high vi
      simp only [List.foldl_nil, List.countP_nil, Int.ofNat_zero, Int.natCast_zero, Int.add_zero] at q
      unfold dM at q
      unfold wp_X5_meanDepth_11
      simp only [hz]
      refine ⟨by omega, by omega, fun _ => ⟨by omega, fun h => ⟨fq_n64 (fq_mean _ (by omega)), ?_⟩, fun h => ?_⟩, fun h => absurd (by omega) h⟩
      · rw [if_pos h] at q
        exact q
      · rw [if_neg h] at q
        exact q
    | cons x S ih =>
      intro i acc cnt nvi low high vi hS hi hcn q
      obtain ⟨hx, hS1, hlt⟩ := ab_drop hS
      obtain ⟨e1, e2, e3, e4, e5, e6⟩ := ab_mrow hm hg hx
      show wp_X5_meanDepth_11 0 z Q (lq7 (wp_X5_meanDepth_11 0 z Q) (S.length + 1)) nvi low high vi acc cnt (i : Int)
      generalize lq7 (wp_X5_meanDepth_11 0 z Q) (S.length + 1) = K at ih ⊢
      have ei : ((1 : Int) + (i : Int)).toNat = 0 + 1 + i := by omega
      have em : ((121 : Int) + (i : Int)).toNat = 0 + 121 + i := by omega
      unfold wp_X5_meanDepth_11
      simp only [hz, ei, em, e1, e2]
      refine ⟨by omega, by omega, fun h => absurd h (by omega), fun _ => ⟨by omega, by omega, fun h => ?_, fun h => ⟨by omega, sp_X5_depthOf (t := 0) hm hg (Nat.zero_le _) (by omega) (fun nvi low high vi => ?_)⟩⟩⟩
      · have := ih (i + 1) acc cnt nvi low high vi hS1 (by omega) (by omega) (fun a b c d => by
          have q := q a b c d
          rw [List.foldl_cons, if_neg h, List.countP_cons_of_neg (by simpa using h)] at q
          exact q)
        push_cast at this
        exact this
      · have h0 : mk x = 0 := by omega
        have := ih (i + 1) (acc + ab_dep L x) (cnt + 1) nvi low high vi hS1 (by omega) (by omega) (fun a b c d => by
          have q := q a b c d
          rw [List.foldl_cons, if_pos h0, List.countP_cons_of_pos (by simpa using h0)] at q
          rw [show cnt + 1 + (S.countP (fun y => decide (mk y = 0)) : Nat) = cnt + ((S.countP (fun y => decide (mk y = 0)) + 1 : Nat) : Int) by push_cast; omega]
          exact q)
        push_cast at this
        exact this
  unfold wp_X5_meanDepth
  refine ⟨_, main L 0 0 0 _ _ _ _ rfl (Nat.zero_le _) (by omega) (fun a b c d => ?_)⟩
  have q := hQ a b c d
  rw [Int.zero_add]
  exact q
end PS
