/-! ===== Row, the rest ===== -/
theorem Row_isSign {h : MH_} {b : Nat} {Q : Rs_ → MH_ → Prop} (hb : b < 256) : Wp 92 0 [.int (Int32.ofNat b)] [] h Q ↔ Q (.inl (.int (bz (sg b)))) h := by
  simp (disch := omega) only [U92_0, U92_1, U92_3, U92_6, U92_7, U92_9, U92_12, U92_13, U92_16, U92_17, i_add, i_mul, i_sub, i_addn, i_lt, i_eq, i_idx, i_vp, true_and, and_true, false_and, and_false, if_true, if_false, Nat.reduceAdd, Nat.reduceMul, Nat.reduceSub, Nat.reduceEqDiff, Option.some.injEq, exists_eq_left', true_or, or_true, false_or, or_false, not_true_eq_false, not_false_eq_true, eq_self, and_self, Nat.reduceLeDiff, decide_true, decide_false, ne_eq, Nat.left_eq_add, Nat.add_eq_left, Nat.add_left_cancel_iff, Nat.add_zero]
  by_cases h1 : b < 32
  · simp only [h1, if_true, bz_f (show ¬ sg b by unfold sg; omega)]
  · by_cases h2 : 126 < b
    · simp only [h1, h2, if_true, if_false, bz_f (show ¬ sg b by unfold sg; omega)]
    · simp only [h1, h2, if_false, bz_t (show sg b by unfold sg; omega)]
def prn (l : List Nat) : Bool := l.all (fun b => decide (sg b))
theorem Row_isPrintable {h : MH_} {r c : Nat} {l : List Nat} {Q : Rs_ → MH_ → Prop} (hr : Rw h r c l) : Wp 90 0 [.ref r, .null] [] h Q ↔ Q (.inl (.int (bz (prn l = true)))) h := by
  have hr' := hr
  obtain ⟨a1, a2, a3, a4, a5, a6, a7, a8, a9⟩ := hr
  have key : ∀ n k, k + n = l.length → (Wp 90 2 [.ref r, .int (Int32.ofNat k)] [] h Q ↔ Q (.inl (.int (bz (prn (l.drop k) = true)))) h) := by
    intro n
    induction n with
    | zero =>
      intro k hk
      rw [U90_2]
      simp (disch := omega) only [U90_0, U90_1, U90_3, U90_4, U90_7, U90_10, U90_11, U90_12, U90_15, U90_18, U90_21, U90_22, U90_23, U90_26, U90_29, U90_30, a1, a7, show ¬ k < l.length by omega, i_add, i_mul, i_sub, i_addn, i_lt, i_eq, i_idx, i_vp, true_and, and_true, false_and, and_false, if_true, if_false, Nat.reduceAdd, Nat.reduceMul, Nat.reduceSub, Nat.reduceEqDiff, Option.some.injEq, exists_eq_left', true_or, or_true, false_or, or_false, not_true_eq_false, not_false_eq_true, eq_self, and_self, Nat.reduceLeDiff, decide_true, decide_false, ne_eq, Nat.left_eq_add, Nat.add_eq_left, Nat.add_left_cancel_iff, Nat.add_zero]
      rw [List.drop_of_length_le (by omega), bz_t (show prn [] = true from rfl)]
    | succ n ih =>
      intro k hk
      rw [U90_2]
      have hb := hr'.lt k
      simp (disch := omega) only [U90_0, U90_1, U90_3, U90_4, U90_7, U90_10, U90_11, U90_12, U90_15, U90_18, U90_21, U90_22, U90_23, U90_26, U90_29, U90_30, a1, a7, show k < l.length by omega, Row_at hr', V85, Row_isSign hb, V92, bz_0, ih (k + 1) (by omega), i_add, i_mul, i_sub, i_addn, i_lt, i_eq, i_idx, i_vp, true_and, and_true, false_and, and_false, if_true, if_false, Nat.reduceAdd, Nat.reduceMul, Nat.reduceSub, Nat.reduceEqDiff, Option.some.injEq, exists_eq_left', true_or, or_true, false_or, or_false, not_true_eq_false, not_false_eq_true, eq_self, and_self, Nat.reduceLeDiff, decide_true, decide_false, ne_eq, Nat.left_eq_add, Nat.add_eq_left, Nat.add_left_cancel_iff, Nat.add_zero]
      by_cases hs : sg (l.getD k 0)
      · rw [if_neg (fun z => z hs), gD_drop (show k < l.length by omega), bz_iff (p := prn (l.getD k 0 :: l.drop (k + 1)) = true) (q := prn (l.drop (k + 1)) = true) (by unfold prn; simp only [List.all_cons, Bool.and_eq_true, decide_eq_true_eq]; exact ⟨fun z => z.2, fun z => ⟨hs, z⟩⟩)]
      · rw [if_pos hs, gD_drop (show k < l.length by omega), bz_f (p := prn (l.getD k 0 :: l.drop (k + 1)) = true) (by unfold prn; simp only [List.all_cons, Bool.and_eq_true, decide_eq_true_eq]; exact fun z => hs z.1)]
  simp (disch := omega) only [U90_0, U90_1, U90_3, U90_4, U90_7, U90_10, U90_11, U90_12, U90_15, U90_18, U90_21, U90_22, U90_23, U90_26, U90_29, U90_30, i_add, i_mul, i_sub, i_addn, i_lt, i_eq, i_idx, i_vp, true_and, and_true, false_and, and_false, if_true, if_false, Nat.reduceAdd, Nat.reduceMul, Nat.reduceSub, Nat.reduceEqDiff, Option.some.injEq, exists_eq_left', true_or, or_true, false_or, or_false, not_true_eq_false, not_false_eq_true, eq_self, and_self, Nat.reduceLeDiff, decide_true, decide_false, ne_eq, Nat.left_eq_add, Nat.add_eq_left, Nat.add_left_cancel_iff, Nat.add_zero]
  exact key l.length 0 (by omega)
theorem Row_standsAt {h : MH_} {r o c d i : Nat} {l m : List Nat} {Q : Rs_ → MH_ → Prop} (hr : Rw h r c l) (ho : Rw h o d m) (hi : i < 1000000) : Wp 101 0 [.ref r, .int (Int32.ofNat i), .ref o, .null] [] h Q ↔ Q (.inl (.int (bz (∀ k, k < m.length → l.getD (i + k) 0 = m.getD k 0)))) h := by
  have ho' := ho
  obtain ⟨a1, a2, a3, a4, a5, a6, a7, a8, a9⟩ := ho
  have key : ∀ n k, k + n = m.length → (Wp 101 2 [.ref r, .int (Int32.ofNat i), .ref o, .int (Int32.ofNat k)] [] h Q ↔ Q (.inl (.int (bz (∀ j, j < n → l.getD (i + (k + j)) 0 = m.getD (k + j) 0)))) h) := by
    intro n
    induction n with
    | zero =>
      intro k hk
      rw [U101_2]
      simp (disch := omega) only [U101_0, U101_1, U101_3, U101_4, U101_7, U101_10, U101_11, U101_12, U101_13, U101_14, U101_17, U101_18, U101_19, U101_22, U101_25, U101_26, U101_27, U101_30, U101_33, U101_34, a1, a7, show ¬ k < m.length by omega, i_add, i_mul, i_sub, i_addn, i_lt, i_eq, i_idx, i_vp, true_and, and_true, false_and, and_false, if_true, if_false, Nat.reduceAdd, Nat.reduceMul, Nat.reduceSub, Nat.reduceEqDiff, Option.some.injEq, exists_eq_left', true_or, or_true, false_or, or_false, not_true_eq_false, not_false_eq_true, eq_self, and_self, Nat.reduceLeDiff, decide_true, decide_false, ne_eq, Nat.left_eq_add, Nat.add_eq_left, Nat.add_left_cancel_iff, Nat.add_zero]
      rw [bz_t (p := ∀ j, j < 0 → l.getD (i + (k + j)) 0 = m.getD (k + j) 0) (fun j hj => absurd hj (Nat.not_lt_zero _))]
    | succ n ih =>
      intro k hk
      rw [U101_2]
      have hb := hr.lt (i + k)
      have hb2 := ho'.lt k
      simp (disch := omega) only [U101_0, U101_1, U101_3, U101_4, U101_7, U101_10, U101_11, U101_12, U101_13, U101_14, U101_17, U101_18, U101_19, U101_22, U101_25, U101_26, U101_27, U101_30, U101_33, U101_34, a1, a7, hr.1, show k < m.length by omega, Row_at hr, Row_at ho', V85, ih (k + 1) (by omega), i_add, i_mul, i_sub, i_addn, i_lt, i_eq, i_idx, i_vp, true_and, and_true, false_and, and_false, if_true, if_false, Nat.reduceAdd, Nat.reduceMul, Nat.reduceSub, Nat.reduceEqDiff, Option.some.injEq, exists_eq_left', true_or, or_true, false_or, or_false, not_true_eq_false, not_false_eq_true, eq_self, and_self, Nat.reduceLeDiff, decide_true, decide_false, ne_eq, Nat.left_eq_add, Nat.add_eq_left, Nat.add_left_cancel_iff, Nat.add_zero]
      by_cases hs : l.getD (i + k) 0 = m.getD k 0
      · simp only [hs, if_true]
        rw [bz_iff (p := ∀ j, j < n + 1 → l.getD (i + (k + j)) 0 = m.getD (k + j) 0) (q := ∀ j, j < n → l.getD (i + (k + 1 + j)) 0 = m.getD (k + 1 + j) 0)]
        constructor
        · intro z j hj
          have := z (j + 1) (by omega)
          rwa [show k + (j + 1) = k + 1 + j by omega] at this
        · intro z j hj
          cases j with
          | zero => exact hs
          | succ j =>
            have := z j (by omega)
            rwa [show k + (j + 1) = k + 1 + j by omega]
      · simp only [hs, if_false]
        rw [bz_f (p := ∀ j, j < n + 1 → l.getD (i + (k + j)) 0 = m.getD (k + j) 0) (fun z => hs (z 0 (by omega)))]
  simp (disch := omega) only [U101_0, U101_1, U101_3, U101_4, U101_7, U101_10, U101_11, U101_12, U101_13, U101_14, U101_17, U101_18, U101_19, U101_22, U101_25, U101_26, U101_27, U101_30, U101_33, U101_34, i_add, i_mul, i_sub, i_addn, i_lt, i_eq, i_idx, i_vp, true_and, and_true, false_and, and_false, if_true, if_false, Nat.reduceAdd, Nat.reduceMul, Nat.reduceSub, Nat.reduceEqDiff, Option.some.injEq, exists_eq_left', true_or, or_true, false_or, or_false, not_true_eq_false, not_false_eq_true, eq_self, and_self, Nat.reduceLeDiff, decide_true, decide_false, ne_eq, Nat.left_eq_add, Nat.add_eq_left, Nat.add_left_cancel_iff, Nat.add_zero]
  rw [key m.length 0 (by omega)]
  simp only [Nat.zero_add]
theorem Row_isSameAs {h : MH_} {r o c d : Nat} {l m : List Nat} {Q : Rs_ → MH_ → Prop} (hr : Rw h r c l) (ho : Rw h o d m) : Wp 91 0 [.ref r, .ref o] [] h Q ↔ Q (.inl (.int (bz (l = m)))) h := by
  have h1 := hr.2.2.2.2.2.1
  have h2 := ho.2.2.2.2.2.1
  have h3 := hr.2.2.2.2.1
  have h4 := ho.2.2.2.2.1
  simp (disch := omega) only [U91_0, U91_1, U91_4, U91_5, U91_8, U91_11, U91_12, U91_13, U91_14, U91_17, U91_20, U91_21, U91_24, U91_25, hr.1, ho.1, hr.2.2.2.2.2.2.1, ho.2.2.2.2.2.2.1, Row_standsAt hr ho, V101, bz_0, bz_01, i_add, i_mul, i_sub, i_addn, i_lt, i_eq, i_idx, i_vp, true_and, and_true, false_and, and_false, if_true, if_false, Nat.reduceAdd, Nat.reduceMul, Nat.reduceSub, Nat.reduceEqDiff, Option.some.injEq, exists_eq_left', true_or, or_true, false_or, or_false, not_true_eq_false, not_false_eq_true, eq_self, and_self, Nat.reduceLeDiff, decide_true, decide_false, ne_eq, Nat.left_eq_add, Nat.add_eq_left, Nat.add_left_cancel_iff, Nat.add_zero]
  by_cases hl : l.length = m.length
  · simp only [hl, if_true, Nat.zero_add]
    by_cases he : l = m
    · subst he
      simp only [bz_t (show l = l from rfl), implies_true, not_true_eq_false, if_false]
    · rw [← bz_f he]
      rw [if_pos]
      intro z
      apply he
      apply List.ext_getElem hl
      intro i hi hi'
      have := z i hi'
      rwa [gD_in hi, gD_in hi'] at this
  · simp only [hl, if_false]
    rw [bz_f (p := l = m) (fun z => hl (by rw [z]))]
/-- the sum of a block -/
def smF (g : Nat → Int32) : Nat → Nat → Int32 → Int32
  | 0, _, s => s
  | n + 1, k, s => smF g n (k + 1) (s * Int32.ofNat 31 + g k)
theorem Row_sumOfBlock {h : MH_} {r c i : Nat} {l : List Nat} {Q : Rs_ → MH_ → Prop} (hr : Rw h r c l) (hi : i < 1000000) : Wp 102 0 [.ref r, .int (Int32.ofNat i), .null, .null] [] h Q ↔ Q (.inl (.int (smF (fun k => Int32.ofNat (l.getD k 0)) 252 i (Int32.ofNat 0)))) h := by
  have key : ∀ n k s, k + n = 252 → (Wp 102 4 [.ref r, .int (Int32.ofNat i), .int s, .int (Int32.ofNat k)] [] h Q ↔ Q (.inl (.int (smF (fun k => Int32.ofNat (l.getD k 0)) n (i + k) s))) h) := by
    intro n
    induction n with
    | zero =>
      intro k s hk
      rw [U102_4]
      simp (disch := omega) only [U102_0, U102_1, U102_2, U102_3, U102_5, U102_8, U102_11, U102_12, U102_14, U102_15, U102_16, U102_17, U102_18, U102_19, U102_22, U102_23, U102_24, U102_27, U102_30, U102_31, show ¬ k < 252 by omega, smF, i_add, i_mul, i_sub, i_addn, i_lt, i_eq, i_idx, i_vp, true_and, and_true, false_and, and_false, if_true, if_false, Nat.reduceAdd, Nat.reduceMul, Nat.reduceSub, Nat.reduceEqDiff, Option.some.injEq, exists_eq_left', true_or, or_true, false_or, or_false, not_true_eq_false, not_false_eq_true, eq_self, and_self, Nat.reduceLeDiff, decide_true, decide_false, ne_eq, Nat.left_eq_add, Nat.add_eq_left, Nat.add_left_cancel_iff, Nat.add_zero]
    | succ n ih =>
      intro k s hk
      rw [U102_4]
      simp (disch := omega) only [U102_0, U102_1, U102_2, U102_3, U102_5, U102_8, U102_11, U102_12, U102_14, U102_15, U102_16, U102_17, U102_18, U102_19, U102_22, U102_23, U102_24, U102_27, U102_30, U102_31, hr.1, show k < 252 by omega, Row_at hr, V85, ih (k + 1), smF, i_add, i_mul, i_sub, i_addn, i_lt, i_eq, i_idx, i_vp, true_and, and_true, false_and, and_false, if_true, if_false, Nat.reduceAdd, Nat.reduceMul, Nat.reduceSub, Nat.reduceEqDiff, Option.some.injEq, exists_eq_left', true_or, or_true, false_or, or_false, not_true_eq_false, not_false_eq_true, eq_self, and_self, Nat.reduceLeDiff, decide_true, decide_false, ne_eq, Nat.left_eq_add, Nat.add_eq_left, Nat.add_left_cancel_iff, Nat.add_zero]
      rw [show i + (k + 1) = i + k + 1 by omega]
  simp (disch := omega) only [U102_0, U102_1, U102_2, U102_3, U102_5, U102_8, U102_11, U102_12, U102_14, U102_15, U102_16, U102_17, U102_18, U102_19, U102_22, U102_23, U102_24, U102_27, U102_30, U102_31, i_add, i_mul, i_sub, i_addn, i_lt, i_eq, i_idx, i_vp, true_and, and_true, false_and, and_false, if_true, if_false, Nat.reduceAdd, Nat.reduceMul, Nat.reduceSub, Nat.reduceEqDiff, Option.some.injEq, exists_eq_left', true_or, or_true, false_or, or_false, not_true_eq_false, not_false_eq_true, eq_self, and_self, Nat.reduceLeDiff, decide_true, decide_false, ne_eq, Nat.left_eq_add, Nat.add_eq_left, Nat.add_left_cancel_iff, Nat.add_zero]
  exact key 252 0 _ (by omega)
/-- a number of several bytes, the highest first -/
def bgF (g : Nat → Nat) : Nat → Nat → Int64 → Int64
  | 0, _, x => x
  | n + 1, k, x => bgF g n (k + 1) (Int64.ofNat 256 * x + Int64.ofNat (g k))
theorem Row_bigAt {h : MH_} {r c i n : Nat} {l : List Nat} {Q : Rs_ → MH_ → Prop} (hr : Rw h r c l) (hi : i < 1000000) (hn : n < 100) : Wp 87 0 [.ref r, .int (Int32.ofNat i), .int (Int32.ofNat n), .null, .null, .null] [] h Q ↔ Q (.inl (.long (bgF (fun k => l.getD k 0) n i (Int64.ofNat 0)))) h := by
  have key : ∀ j k x, k + j = n → (Wp 87 5 [.ref r, .int (Int32.ofNat i), .int (Int32.ofNat n), .long x, .null, .int (Int32.ofNat k)] [] h Q ↔ Q (.inl (.long (bgF (fun k => l.getD k 0) j (i + k) x))) h) := by
    intro j
    induction j with
    | zero =>
      intro k s hk
      rw [U87_5]
      simp (disch := omega) only [U87_0, U87_1, U87_2, U87_3, U87_7, U87_8, U87_11, U87_12, U87_14, U87_15, U87_16, U87_17, U87_19, U87_20, U87_23, U87_24, U87_25, U87_26, U87_29, U87_32, U87_33, show ¬ k < n by omega, bgF, i_add, i_mul, i_sub, i_addn, i_lt, i_eq, i_idx, i_vp, true_and, and_true, false_and, and_false, if_true, if_false, Nat.reduceAdd, Nat.reduceMul, Nat.reduceSub, Nat.reduceEqDiff, Option.some.injEq, exists_eq_left', true_or, or_true, false_or, or_false, not_true_eq_false, not_false_eq_true, eq_self, and_self, Nat.reduceLeDiff, decide_true, decide_false, ne_eq, Nat.left_eq_add, Nat.add_eq_left, Nat.add_left_cancel_iff, Nat.add_zero]
    | succ j ih =>
      intro k s hk
      rw [U87_5]
      simp (disch := omega) only [U87_0, U87_1, U87_2, U87_3, U87_7, U87_8, U87_11, U87_12, U87_14, U87_15, U87_16, U87_17, U87_19, U87_20, U87_23, U87_24, U87_25, U87_26, U87_29, U87_32, U87_33, hr.1, show k < n by omega, Row_at hr, V85, shl_or _ (hr.lt (i + k)), ih (k + 1), bgF, i_add, i_mul, i_sub, i_addn, i_lt, i_eq, i_idx, i_vp, true_and, and_true, false_and, and_false, if_true, if_false, Nat.reduceAdd, Nat.reduceMul, Nat.reduceSub, Nat.reduceEqDiff, Option.some.injEq, exists_eq_left', true_or, or_true, false_or, or_false, not_true_eq_false, not_false_eq_true, eq_self, and_self, Nat.reduceLeDiff, decide_true, decide_false, ne_eq, Nat.left_eq_add, Nat.add_eq_left, Nat.add_left_cancel_iff, Nat.add_zero]
      rw [show i + (k + 1) = i + k + 1 by omega]
  simp (disch := omega) only [U87_0, U87_1, U87_2, U87_3, U87_7, U87_8, U87_11, U87_12, U87_14, U87_15, U87_16, U87_17, U87_19, U87_20, U87_23, U87_24, U87_25, U87_26, U87_29, U87_32, U87_33, i_add, i_mul, i_sub, i_addn, i_lt, i_eq, i_idx, i_vp, true_and, and_true, false_and, and_false, if_true, if_false, Nat.reduceAdd, Nat.reduceMul, Nat.reduceSub, Nat.reduceEqDiff, Option.some.injEq, exists_eq_left', true_or, or_true, false_or, or_false, not_true_eq_false, not_false_eq_true, eq_self, and_self, Nat.reduceLeDiff, decide_true, decide_false, ne_eq, Nat.left_eq_add, Nat.add_eq_left, Nat.add_left_cancel_iff, Nat.add_zero]
  exact key n 0 _ (by omega)
/-- the n lowest bytes, the highest first -/
def bigB (x : Int64) : Nat → List Nat
  | 0 => []
  | n + 1 => by64 x n :: bigB x n
theorem Row_putBig {h : MH_} {r c n : Nat} {x : Int64} {l : List Nat} (hr : Rw h r c l) (hn : n ≤ 8) (hc : l.length + n ≤ c) : Wp 94 0 [.ref r, .long x, .null, .int (Int32.ofNat n), .null] [] h (fun v h' => v = .inl .null ∧ Rw h' r c (l ++ bigB x n) ∧ Fz (SR r) h h') := by
  have last : ∀ h l, Rw h r c l → Wp 94 5 [.ref r, .long x, .null, .int (Int32.ofNat n), .int (-(Int32.ofNat 1))] [] h (fun v h' => v = .inl .null ∧ Rw h' r c l ∧ Fz (SR r) h h') := by
    intro h l hr
    rw [U94_5]
    simp (disch := omega) only [U94_0, U94_1, U94_2, U94_3, U94_7, U94_10, U94_11, U94_12, U94_14, U94_16, U94_17, U94_18, U94_19, U94_22, U94_25, U94_28, show (-(Int32.ofNat 1) : Int32) < Int32.ofNat 0 by decide, i_add, i_mul, i_sub, i_addn, i_lt, i_eq, i_idx, i_vp, true_and, and_true, false_and, and_false, if_true, if_false, Nat.reduceAdd, Nat.reduceMul, Nat.reduceSub, Nat.reduceEqDiff, Option.some.injEq, exists_eq_left', true_or, or_true, false_or, or_false, not_true_eq_false, not_false_eq_true, eq_self, and_self, Nat.reduceLeDiff, decide_true, decide_false, ne_eq, Nat.left_eq_add, Nat.add_eq_left, Nat.add_left_cancel_iff, Nat.add_zero]
    exact ⟨hr, Fz.rfl'⟩
  have key : ∀ k h l, k < 8 → Rw h r c l → l.length + (k + 1) ≤ c → Wp 94 5 [.ref r, .long x, .null, .int (Int32.ofNat n), .int (Int32.ofNat k)] [] h (fun v h' => v = .inl .null ∧ Rw h' r c (l ++ bigB x (k + 1)) ∧ Fz (SR r) h h') := by
    intro k
    induction k with
    | zero =>
      intro h l hk hr hc
      rw [U94_5]
      simp (disch := omega) only [U94_0, U94_1, U94_2, U94_3, U94_7, U94_10, U94_11, U94_12, U94_14, U94_16, U94_17, U94_18, U94_19, U94_22, U94_25, U94_28, hr.1, i_add, i_mul, i_sub, i_addn, i_lt, i_eq, i_idx, i_vp, true_and, and_true, false_and, and_false, if_true, if_false, Nat.reduceAdd, Nat.reduceMul, Nat.reduceSub, Nat.reduceEqDiff, Option.some.injEq, exists_eq_left', true_or, or_true, false_or, or_false, not_true_eq_false, not_false_eq_true, eq_self, and_self, Nat.reduceLeDiff, decide_true, decide_false, ne_eq, Nat.left_eq_add, Nat.add_eq_left, Nat.add_left_cancel_iff, Nat.add_zero]
      refine Wp_use (Row_put hr (by omega)) ?_
      rintro _ h1 ⟨rfl, hr1, f1⟩
      simp (disch := omega) only [V93, U94_0, U94_1, U94_2, U94_3, U94_7, U94_10, U94_11, U94_12, U94_14, U94_16, U94_17, U94_18, U94_19, U94_22, U94_25, U94_28, true_and, and_true, false_and, and_false, if_true, if_false, Nat.reduceAdd, Nat.reduceMul, Nat.reduceSub, Nat.reduceEqDiff, Option.some.injEq, exists_eq_left', true_or, or_true, false_or, or_false, not_true_eq_false, not_false_eq_true, eq_self, and_self, Nat.reduceLeDiff, decide_true, decide_false, ne_eq, Nat.left_eq_add, Nat.add_eq_left, Nat.add_left_cancel_iff, Nat.add_zero]
      rw [show Int32.ofNat 0 + -(Int32.ofNat 1) = -(Int32.ofNat 1) by decide]
      refine Wp_use (last h1 _ hr1) ?_
      rintro _ h2 ⟨rfl, hr2, f2⟩
      refine ⟨rfl, ?_, f1.trans f2⟩
      have e := lo8_ushr x (k := 0) (by omega)
      simp only [Nat.mul_zero] at e
      rw [e] at hr2
      exact hr2
    | succ k ih =>
      intro h l hk hr hc
      rw [U94_5]
      simp (disch := omega) only [U94_0, U94_1, U94_2, U94_3, U94_7, U94_10, U94_11, U94_12, U94_14, U94_16, U94_17, U94_18, U94_19, U94_22, U94_25, U94_28, hr.1, show ¬ k + 1 < 0 by omega, i_add, i_mul, i_sub, i_addn, i_lt, i_eq, i_idx, i_vp, true_and, and_true, false_and, and_false, if_true, if_false, Nat.reduceAdd, Nat.reduceMul, Nat.reduceSub, Nat.reduceEqDiff, Option.some.injEq, exists_eq_left', true_or, or_true, false_or, or_false, not_true_eq_false, not_false_eq_true, eq_self, and_self, Nat.reduceLeDiff, decide_true, decide_false, ne_eq, Nat.left_eq_add, Nat.add_eq_left, Nat.add_left_cancel_iff, Nat.add_zero]
      refine Wp_use (Row_put hr (by omega)) ?_
      rintro _ h1 ⟨rfl, hr1, f1⟩
      simp (disch := omega) only [V93, U94_0, U94_1, U94_2, U94_3, U94_7, U94_10, U94_11, U94_12, U94_14, U94_16, U94_17, U94_18, U94_19, U94_22, U94_25, U94_28, i_add, i_mul, i_sub, i_addn, i_lt, i_eq, i_idx, i_vp, true_and, and_true, false_and, and_false, if_true, if_false, Nat.reduceAdd, Nat.reduceMul, Nat.reduceSub, Nat.reduceEqDiff, Option.some.injEq, exists_eq_left', true_or, or_true, false_or, or_false, not_true_eq_false, not_false_eq_true, eq_self, and_self, Nat.reduceLeDiff, decide_true, decide_false, ne_eq, Nat.left_eq_add, Nat.add_eq_left, Nat.add_left_cancel_iff, Nat.add_zero]
      rw [show k + 1 - 1 = k by omega]
      refine Wp_use (ih h1 _ (by omega) hr1 (by rw [List.length_append, List.length_singleton]; omega)) ?_
      rintro _ h2 ⟨rfl, hr2, f2⟩
      refine ⟨rfl, ?_, f1.trans f2⟩
      rw [lo8_ushr x hk, List.append_assoc] at hr2
      exact hr2
  cases n with
  | zero =>
    simp (disch := omega) only [U94_0, U94_1, U94_2, U94_3, U94_7, U94_10, U94_11, U94_12, U94_14, U94_16, U94_17, U94_18, U94_19, U94_22, U94_25, U94_28, true_and, and_true, false_and, and_false, if_true, if_false, Nat.reduceAdd, Nat.reduceMul, Nat.reduceSub, Nat.reduceEqDiff, Option.some.injEq, exists_eq_left', true_or, or_true, false_or, or_false, not_true_eq_false, not_false_eq_true, eq_self, and_self, Nat.reduceLeDiff, decide_true, decide_false, ne_eq, Nat.left_eq_add, Nat.add_eq_left, Nat.add_left_cancel_iff, Nat.add_zero]
    rw [show Int32.ofNat 0 - Int32.ofNat 1 = -(Int32.ofNat 1) by decide]
    exact Wp_use (last h l hr) fun _ _ z => ⟨z.1, by simpa only [bigB, List.append_nil] using z.2.1, z.2.2⟩
  | succ n =>
    simp (disch := omega) only [U94_0, U94_1, U94_2, U94_3, U94_7, U94_10, U94_11, U94_12, U94_14, U94_16, U94_17, U94_18, U94_19, U94_22, U94_25, U94_28, i_add, i_mul, i_sub, i_addn, i_lt, i_eq, i_idx, i_vp, true_and, and_true, false_and, and_false, if_true, if_false, Nat.reduceAdd, Nat.reduceMul, Nat.reduceSub, Nat.reduceEqDiff, Option.some.injEq, exists_eq_left', true_or, or_true, false_or, or_false, not_true_eq_false, not_false_eq_true, eq_self, and_self, Nat.reduceLeDiff, decide_true, decide_false, ne_eq, Nat.left_eq_add, Nat.add_eq_left, Nat.add_left_cancel_iff, Nat.add_zero]
    exact key n h l (by omega) hr hc
