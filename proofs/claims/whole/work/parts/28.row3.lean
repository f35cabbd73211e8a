/-! ===== Row: contains, putVar ===== -/
theorem j_lt {a b : Nat} (ha : a < 9223372036854775808) (hb : b < 9223372036854775808) : Int64.ofNat a < Int64.ofNat b ↔ a < b := by
  rw [Int64.lt_iff_toInt_lt, Int64.toInt_ofNat_of_lt (by omega), Int64.toInt_ofNat_of_lt (by omega)]
  omega
theorem j_eq {a b : Nat} (ha : a < 9223372036854775808) (hb : b < 9223372036854775808) : Int64.ofNat a = Int64.ofNat b ↔ a = b := by
  rw [← Int64.toInt_inj, Int64.toInt_ofNat_of_lt (by omega), Int64.toInt_ofNat_of_lt (by omega)]
  omega
theorem j_nat {x : Int64} (h : ¬ x < Int64.ofNat 0) : ∃ n, n < 9223372036854775808 ∧ x = Int64.ofNat n := by
  have h0 : 0 ≤ x := Int64.not_lt.mp h
  exact ⟨x.toNatClampNeg, x.toNatClampNeg_lt, (Int64.ofNat_toNatClampNeg x h0).symm⟩
def anyF (g : Nat → Bool) : Nat → Nat → Bool
  | 0, _ => false
  | n + 1, i => g i || anyF g n (i + 1)
def stnd (l m : List Nat) (i : Nat) : Bool := decide (∀ k, k < m.length → l.getD (i + k) 0 = m.getD k 0)
def cont (l m : List Nat) : Bool := anyF (stnd l m) (l.length + 1 - m.length) 0
theorem Row_contains {h : MH_} {r o c d : Nat} {l m : List Nat} {Q : Rs_ → MH_ → Prop} (hr : Rw h r c l) (ho : Rw h o d m) : Wp 88 0 [.ref r, .ref o, .null] [] h Q ↔ Q (.inl (.int (bz (cont l m = true)))) h := by
  have h1 := hr.2.2.2.2.2.1
  have h2 := ho.2.2.2.2.2.1
  have h3 := hr.2.2.2.2.1
  have h4 := ho.2.2.2.2.1
  have key : ∀ n i, n = l.length + 1 - m.length - i → i ≤ l.length + 1 → (Wp 88 2 [.ref r, .ref o, .int (Int32.ofNat i)] [] h Q ↔ Q (.inl (.int (bz (anyF (stnd l m) n i = true)))) h) := by
    intro n
    induction n with
    | zero =>
      intro i hn hi
      rw [U88_2]
      simp (disch := omega) only [U88_0, U88_1, U88_3, U88_4, U88_7, U88_8, U88_9, U88_12, U88_15, U88_16, U88_17, U88_18, U88_21, U88_24, U88_25, U88_26, U88_29, U88_32, U88_33, hr.1, ho.1, hr.2.2.2.2.2.2.1, ho.2.2.2.2.2.2.1, show l.length < i + m.length by omega, i_add, i_mul, i_sub, i_addn, i_lt, i_eq, i_idx, i_vp, true_and, and_true, false_and, and_false, if_true, if_false, Nat.reduceAdd, Nat.reduceMul, Nat.reduceSub, Nat.reduceEqDiff, Option.some.injEq, exists_eq_left', true_or, or_true, false_or, or_false, not_true_eq_false, not_false_eq_true, eq_self, and_self, Nat.reduceLeDiff, decide_true, decide_false, ne_eq, Nat.left_eq_add, Nat.add_eq_left, Nat.add_left_cancel_iff, Nat.add_zero]
      rw [bz_f (p := anyF (stnd l m) 0 i = true) (by unfold anyF; decide)]
    | succ n ih =>
      intro i hn hi
      rw [U88_2]
      simp (disch := omega) only [U88_0, U88_1, U88_3, U88_4, U88_7, U88_8, U88_9, U88_12, U88_15, U88_16, U88_17, U88_18, U88_21, U88_24, U88_25, U88_26, U88_29, U88_32, U88_33, hr.1, ho.1, hr.2.2.2.2.2.2.1, ho.2.2.2.2.2.2.1, show ¬ l.length < i + m.length by omega, Row_standsAt hr ho, V101, bz_0, ih (i + 1) (by omega) (by omega), i_add, i_mul, i_sub, i_addn, i_lt, i_eq, i_idx, i_vp, true_and, and_true, false_and, and_false, if_true, if_false, Nat.reduceAdd, Nat.reduceMul, Nat.reduceSub, Nat.reduceEqDiff, Option.some.injEq, exists_eq_left', true_or, or_true, false_or, or_false, not_true_eq_false, not_false_eq_true, eq_self, and_self, Nat.reduceLeDiff, decide_true, decide_false, ne_eq, Nat.left_eq_add, Nat.add_eq_left, Nat.add_left_cancel_iff, Nat.add_zero]
      by_cases hs : ∀ k, k < m.length → l.getD (i + k) 0 = m.getD k 0
      · rw [if_neg (fun z => z hs), bz_t (p := anyF (stnd l m) (n + 1) i = true) (by unfold anyF stnd; rw [decide_eq_true hs, Bool.true_or])]
      · rw [if_pos hs, bz_iff (p := anyF (stnd l m) (n + 1) i = true) (q := anyF (stnd l m) n (i + 1) = true) (by rw [anyF]; unfold stnd; rw [decide_eq_false hs, Bool.false_or])]
  simp (disch := omega) only [U88_0, U88_1, U88_3, U88_4, U88_7, U88_8, U88_9, U88_12, U88_15, U88_16, U88_17, U88_18, U88_21, U88_24, U88_25, U88_26, U88_29, U88_32, U88_33, i_add, i_mul, i_sub, i_addn, i_lt, i_eq, i_idx, i_vp, true_and, and_true, false_and, and_false, if_true, if_false, Nat.reduceAdd, Nat.reduceMul, Nat.reduceSub, Nat.reduceEqDiff, Option.some.injEq, exists_eq_left', true_or, or_true, false_or, or_false, not_true_eq_false, not_false_eq_true, eq_self, and_self, Nat.reduceLeDiff, decide_true, decide_false, ne_eq, Nat.left_eq_add, Nat.add_eq_left, Nat.add_left_cancel_iff, Nat.add_zero]
  exact key _ 0 (by omega) (by omega)
/-- a number in groups of seven bits, the lowest first -/
def vrF : Nat → Nat → List Nat
  | 0, v => [v]
  | n + 1, v => if 127 < v then (v % 128 + 128) :: vrF n (v / 128) else [v]
theorem vrF_len : ∀ n v, (vrF n v).length ≤ n + 1
  | 0, v => by simp [vrF]
  | n + 1, v => by
    unfold vrF
    split
    · have := vrF_len n (v / 128)
      rw [List.length_cons]; omega
    · rw [List.length_singleton]; omega
theorem var_lo {v : Nat} (hv : v < 9223372036854775808) : lo8 ((Int64.ofNat v &&& Int64.ofNat 127).toInt32 ||| Int32.ofNat 128) = v % 128 + 128 := by
  have h1 : bvI (Int64.ofNat v &&& Int64.ofNat 127).toInt32 = v % 128 := by
    rw [bvI_toInt32, bvJ_and127, bvJ_of]; omega
  have h2 : bvI ((Int64.ofNat v &&& Int64.ofNat 127).toInt32 ||| Int32.ofNat 128) = bvI (Int64.ofNat v &&& Int64.ofNat 127).toInt32 ||| 128 := by
    unfold bvI
    rw [Int32.toBitVec_or, BitVec.toNat_or]; rfl
  have h3 := or_add (a := 1) (b := v % 128) (i := 7) (by omega)
  rw [lo8_n, h2, h1, Nat.or_comm, show (128 : Nat) = 1 * 2 ^ 7 by decide, h3]
  omega
theorem var_sh {v : Nat} (hv : v < 9223372036854775808) : ((Int64.ofNat v).toUInt64 >>> ((Int32.ofNat 7).toInt64.toUInt64 &&& Int64.toUInt64 63)).toInt64 = Int64.ofNat (v / 128) := by
  apply bvJ_inj
  rw [bvJ_ushr _ (by omega), bvJ_of, bvJ_of]
  omega
theorem Row_putVar {h : MH_} {r c v : Nat} {l : List Nat} (hr : Rw h r c l) (hv : v < 9223372036854775808) (hc : l.length + 9 ≤ c) : Wp 96 0 [.ref r, .long (Int64.ofNat v), .null, .null, .null, .null] [] h (fun w h' => w = .inl .null ∧ Rw h' r c (l ++ vrF 8 v) ∧ Fz (SR r) h h') := by
  have fin : ∀ u h l k, Rw h r c l → u < 128 → l.length + 1 ≤ c → ∀ x, Wp 96 45 [.ref r, .long x, .null, .long (Int64.ofNat u), .null, .int k] [] h (fun w h' => w = .inl .null ∧ Rw h' r c (l ++ [u]) ∧ Fz (SR r) h h') := by
    intro u h l k hr hu hc x
    simp (disch := omega) only [U96_0, U96_1, U96_2, U96_3, U96_7, U96_9, U96_12, U96_13, U96_16, U96_17, U96_20, U96_21, U96_22, U96_25, U96_26, U96_27, U96_30, U96_31, U96_34, U96_35, U96_37, U96_38, U96_39, U96_42, U96_45, U96_46, U96_47, U96_48, U96_51, hr.1, true_and, and_true, false_and, and_false, if_true, if_false, Nat.reduceAdd, Nat.reduceMul, Nat.reduceSub, Nat.reduceEqDiff, Option.some.injEq, exists_eq_left', true_or, or_true, false_or, or_false, not_true_eq_false, not_false_eq_true, eq_self, and_self, Nat.reduceLeDiff, decide_true, decide_false, ne_eq, Nat.left_eq_add, Nat.add_eq_left, Nat.add_left_cancel_iff, Nat.add_zero]
    refine Wp_use (Row_put hr (by omega)) ?_
    rintro _ h1 ⟨rfl, hr1, f1⟩
    simp (disch := omega) only [V93, U96_0, U96_1, U96_2, U96_3, U96_7, U96_9, U96_12, U96_13, U96_16, U96_17, U96_20, U96_21, U96_22, U96_25, U96_26, U96_27, U96_30, U96_31, U96_34, U96_35, U96_37, U96_38, U96_39, U96_42, U96_45, U96_46, U96_47, U96_48, U96_51, true_and, and_true, false_and, and_false, if_true, if_false, Nat.reduceAdd, Nat.reduceMul, Nat.reduceSub, Nat.reduceEqDiff, Option.some.injEq, exists_eq_left', true_or, or_true, false_or, or_false, not_true_eq_false, not_false_eq_true, eq_self, and_self, Nat.reduceLeDiff, decide_true, decide_false, ne_eq, Nat.left_eq_add, Nat.add_eq_left, Nat.add_left_cancel_iff, Nat.add_zero]
    refine ⟨?_, f1⟩
    rw [lo8_n, bvI_toInt32, bvJ_of] at hr1
    rwa [show u % 18446744073709551616 % 4294967296 % 256 = u by omega] at hr1
  have key : ∀ n k u h l, k + n = 9 → 1 ≤ k → u < 128 ^ (n + 1) → u < 9223372036854775808 → Rw h r c l → l.length + (n + 1) ≤ c → Wp 96 5 [.ref r, .long (Int64.ofNat v), .null, .long (Int64.ofNat u), .null, .int (Int32.ofNat k)] [] h (fun w h' => w = .inl .null ∧ Rw h' r c (l ++ vrF n u) ∧ Fz (SR r) h h') := by
    intro n
    induction n with
    | zero =>
      intro k u h l hk h1 hu hu2 hr hc
      rw [U96_5, U96_7, U96_9]
      simp (disch := omega) only [show ¬ k < 9 by omega, i_add, i_mul, i_sub, i_addn, i_lt, i_eq, i_idx, i_vp, true_and, and_true, false_and, and_false, if_true, if_false, Nat.reduceAdd, Nat.reduceMul, Nat.reduceSub, Nat.reduceEqDiff, Option.some.injEq, exists_eq_left', true_or, or_true, false_or, or_false, not_true_eq_false, not_false_eq_true, eq_self, and_self, Nat.reduceLeDiff, decide_true, decide_false, ne_eq, Nat.left_eq_add, Nat.add_eq_left, Nat.add_left_cancel_iff, Nat.add_zero]
      exact fin u h l _ hr (by omega) (by omega) _
    | succ n ih =>
      intro k u h l hk h1 hu hu2 hr hc
      rw [U96_5]
      by_cases hg : 127 < u
      · simp (disch := omega) only [U96_0, U96_1, U96_2, U96_3, U96_7, U96_9, U96_12, U96_13, U96_16, U96_17, U96_20, U96_21, U96_22, U96_25, U96_26, U96_27, U96_30, U96_31, U96_34, U96_35, U96_37, U96_38, U96_39, U96_42, U96_45, U96_46, U96_47, U96_48, U96_51, show k < 9 by omega, c_gt, j_lt, hg, hr.1, i_add, i_mul, i_sub, i_addn, i_lt, i_eq, i_idx, i_vp, true_and, and_true, false_and, and_false, if_true, if_false, Nat.reduceAdd, Nat.reduceMul, Nat.reduceSub, Nat.reduceEqDiff, Option.some.injEq, exists_eq_left', true_or, or_true, false_or, or_false, not_true_eq_false, not_false_eq_true, eq_self, and_self, Nat.reduceLeDiff, decide_true, decide_false, ne_eq, Nat.left_eq_add, Nat.add_eq_left, Nat.add_left_cancel_iff, Nat.add_zero]
        refine Wp_use (Row_put hr (by omega)) ?_
        rintro _ h2 ⟨rfl, hr1, f1⟩
        simp (disch := omega) only [V93, U96_0, U96_1, U96_2, U96_3, U96_7, U96_9, U96_12, U96_13, U96_16, U96_17, U96_20, U96_21, U96_22, U96_25, U96_26, U96_27, U96_30, U96_31, U96_34, U96_35, U96_37, U96_38, U96_39, U96_42, U96_45, U96_46, U96_47, U96_48, U96_51, var_sh hu2, i_add, i_mul, i_sub, i_addn, i_lt, i_eq, i_idx, i_vp, true_and, and_true, false_and, and_false, if_true, if_false, Nat.reduceAdd, Nat.reduceMul, Nat.reduceSub, Nat.reduceEqDiff, Option.some.injEq, exists_eq_left', true_or, or_true, false_or, or_false, not_true_eq_false, not_false_eq_true, eq_self, and_self, Nat.reduceLeDiff, decide_true, decide_false, ne_eq, Nat.left_eq_add, Nat.add_eq_left, Nat.add_left_cancel_iff, Nat.add_zero]
        have hp : 128 ^ (n + 1 + 1) = 128 ^ (n + 1) * 128 := Nat.pow_succ 128 (n + 1)
        refine Wp_use (ih (k + 1) (u / 128) h2 _ (by omega) (by omega) (Nat.div_lt_of_lt_mul (by rw [Nat.mul_comm, ← hp]; exact hu)) (by omega) hr1 (by rw [List.length_append, List.length_singleton]; omega)) ?_
        rintro _ h3 ⟨rfl, hr2, f2⟩
        refine ⟨rfl, ?_, f1.trans f2⟩
        rw [vrF, if_pos hg]
        rwa [var_lo hu2, List.append_assoc, List.singleton_append] at hr2
      · rw [U96_7, U96_9]
        simp (disch := omega) only [U96_12, U96_13, U96_16, U96_17, show k < 9 by omega, c_gt, j_lt, hg, i_add, i_mul, i_sub, i_addn, i_lt, i_eq, i_idx, i_vp, true_and, and_true, false_and, and_false, if_true, if_false, Nat.reduceAdd, Nat.reduceMul, Nat.reduceSub, Nat.reduceEqDiff, Option.some.injEq, exists_eq_left', true_or, or_true, false_or, or_false, not_true_eq_false, not_false_eq_true, eq_self, and_self, Nat.reduceLeDiff, decide_true, decide_false, ne_eq, Nat.left_eq_add, Nat.add_eq_left, Nat.add_left_cancel_iff, Nat.add_zero]
        rw [vrF, if_neg hg]
        exact fin u h l _ hr (by omega) (by omega) _
  simp (disch := omega) only [U96_0, U96_1, U96_2, U96_3, U96_7, U96_9, U96_12, U96_13, U96_16, U96_17, U96_20, U96_21, U96_22, U96_25, U96_26, U96_27, U96_30, U96_31, U96_34, U96_35, U96_37, U96_38, U96_39, U96_42, U96_45, U96_46, U96_47, U96_48, U96_51, i_add, i_mul, i_sub, i_addn, i_lt, i_eq, i_idx, i_vp, true_and, and_true, false_and, and_false, if_true, if_false, Nat.reduceAdd, Nat.reduceMul, Nat.reduceSub, Nat.reduceEqDiff, Option.some.injEq, exists_eq_left', true_or, or_true, false_or, or_false, not_true_eq_false, not_false_eq_true, eq_self, and_self, Nat.reduceLeDiff, decide_true, decide_false, ne_eq, Nat.left_eq_add, Nat.add_eq_left, Nat.add_left_cancel_iff, Nat.add_zero]
  exact key 8 1 v h l (by omega) (by omega) (Nat.lt_of_lt_of_le hv (by decide)) hv hr (by omega)
