/-! ===== the model: hasNumber ===== -/
section
variable {h h' : MH_} {m s e : Nat} {si : List (List Tok)} {ts : List Tok} {nm : Nat → List Nat} {Q : Rs_ → MH_ → Prop}
theorem M_hasNumber {y : Ev} {x : Int32} (X0 : MS h m) (X2 : MF h m si) (hM : M1 h m e y) (he : e < 2856) (hs : si[y.2.1]? = some ts) (hf : fit ts y.2.2.2 = true) : Wp 160 0 [.ref m, .int (Int32.ofNat e), .int x] [] h Q ↔ Q (.inl (.int (bz (isNI y.2.2.2 x = true)))) h := by
  have y1 := hM.1
  have fle := fit_len hf
  have l6 := hM.2.2.2.1
  have no : ¬ isNI y.2.2.2 x = true → (Q (.inl (.int (bz (isNI y.2.2.2 x = true)))) h ↔ Q (.inl (.int (Int32.ofNat 0))) h) := fun z => by rw [← bz_f z]
  by_cases c1 : x < Int32.ofNat 0
  · rw [no (by unfold isNI; rw [decide_eq_true c1]; simp)]
    have wi : ∀ (Q : Rs_ → MH_ → Prop) (b : Int32), Wp 207 0 [.int x, .int (Int32.ofNat 0), .int b] [] h Q ↔ Q (.inl (.int (Int32.ofNat 0))) h := by
      intro Q b
      rw [M_within]
      exact iff_of_eq (congrArg (fun z => Q (.inl (.int z)) h) (bz_f (fun z => z.1 c1)).symm)
    simp (disch := omega) only [U160_0, U160_1, U160_2, U160_3, U160_4, U160_7, U160_8, U160_9, U160_12, U160_13, U160_14, U160_17, U160_20, U160_21, U160_22, U160_25, U160_26, U160_27, U160_28, U160_31, U160_34, U160_35, U160_38, U160_39, X0.1, mp28 X0, mk20 X0, mn20 X0, y1, M_slotCount X0 X2 hs, V198, wi, V207, show e < 2900 by omega, i_add, i_mul, i_sub, i_addn, i_lt, i_eq, i_idx, i_vp, true_and, and_true, false_and, and_false, if_true, if_false, Nat.reduceAdd, Nat.reduceMul, Nat.reduceSub, Nat.reduceEqDiff, Option.some.injEq, exists_eq_left', true_or, or_true, false_or, or_false, not_true_eq_false, not_false_eq_true, eq_self, and_self, Nat.reduceLeDiff, decide_true, decide_false, ne_eq, Nat.left_eq_add, Nat.add_eq_left, Nat.add_left_cancel_iff, Nat.add_zero]
  · obtain ⟨q, hq, rfl⟩ := i_nat c1
    have ei := i_idx hq
    have eq : isNI y.2.2.2 (Int32.ofNat q) = isN y.2.2.2 q := by unfold isNI; rw [decide_eq_false c1, ei]; simp
    rw [eq] at no ⊢
    by_cases c2 : q < (slts ts).length
    · have wi : ∀ (Q : Rs_ → MH_ → Prop), Wp 207 0 [.int (Int32.ofNat q), .int (Int32.ofNat 0), .int (Int32.ofNat ((slts ts).length - 1))] [] h Q ↔ Q (.inl (.int (Int32.ofNat 1))) h := by
        intro Q
        rw [M_within, ← bz_t ⟨c1, by rw [i_lt (by omega) (by omega)]; omega⟩]
      have fa := fit_at hf (j := q) c2
      by_cases c3 : kdS ts q = 116
      · rw [no (fun z => (fa.mp z) c3)]
        have b3 : ¬ bz (kdS ts q = 116) = Int32.ofNat 0 := by rw [bz_0]; exact fun z => z c3
        simp (disch := omega) only [U160_0, U160_1, U160_2, U160_3, U160_4, U160_7, U160_8, U160_9, U160_12, U160_13, U160_14, U160_17, U160_20, U160_21, U160_22, U160_25, U160_26, U160_27, U160_28, U160_31, U160_34, U160_35, U160_38, U160_39, X0.1, mp28 X0, mk20 X0, mn20 X0, y1, M_slotCount X0 X2 hs, V198, wi, V207, M_isTextSlot X0 X2 hs, V167, b3, show ¬ (1 : Nat) = 0 by omega, show e < 2900 by omega, i_add, i_mul, i_sub, i_addn, i_lt, i_eq, i_idx, i_vp, true_and, and_true, false_and, and_false, if_true, if_false, Nat.reduceAdd, Nat.reduceMul, Nat.reduceSub, Nat.reduceEqDiff, Option.some.injEq, exists_eq_left', true_or, or_true, false_or, or_false, not_true_eq_false, not_false_eq_true, eq_self, and_self, Nat.reduceLeDiff, decide_true, decide_false, ne_eq, Nat.left_eq_add, Nat.add_eq_left, Nat.add_left_cancel_iff, Nat.add_zero]
      · rw [← bz_t (fa.mpr c3)]
        have b3 : bz (kdS ts q = 116) = Int32.ofNat 0 := by rw [bz_0]; exact c3
        simp (disch := omega) only [U160_0, U160_1, U160_2, U160_3, U160_4, U160_7, U160_8, U160_9, U160_12, U160_13, U160_14, U160_17, U160_20, U160_21, U160_22, U160_25, U160_26, U160_27, U160_28, U160_31, U160_34, U160_35, U160_38, U160_39, X0.1, mp28 X0, mk20 X0, mn20 X0, y1, M_slotCount X0 X2 hs, V198, wi, V207, M_isTextSlot X0 X2 hs, V167, b3, show ¬ (1 : Nat) = 0 by omega, show e < 2900 by omega, i_add, i_mul, i_sub, i_addn, i_lt, i_eq, i_idx, i_vp, true_and, and_true, false_and, and_false, if_true, if_false, Nat.reduceAdd, Nat.reduceMul, Nat.reduceSub, Nat.reduceEqDiff, Option.some.injEq, exists_eq_left', true_or, or_true, false_or, or_false, not_true_eq_false, not_false_eq_true, eq_self, and_self, Nat.reduceLeDiff, decide_true, decide_false, ne_eq, Nat.left_eq_add, Nat.add_eq_left, Nat.add_left_cancel_iff, Nat.add_zero]
    · have hn : ¬ isN y.2.2.2 q = true := by
        unfold isN
        rw [List.getElem?_eq_none (by omega)]
        simp
      rw [no hn]
      by_cases c4 : (slts ts).length = 0
      · have wi : ∀ (Q : Rs_ → MH_ → Prop), Wp 207 0 [.int (Int32.ofNat q), .int (Int32.ofNat 0), .int (Int32.ofNat 0 - Int32.ofNat 1)] [] h Q ↔ Q (.inl (.int (Int32.ofNat 0))) h := by
          intro Q
          rw [M_within]
          refine iff_of_eq (congrArg (fun z => Q (.inl (.int z)) h) (bz_f (fun z => z.2 ?_)).symm)
          rw [show Int32.ofNat 0 - Int32.ofNat 1 = -(Int32.ofNat 1) by decide]
          exact Int32.lt_of_lt_of_le (show -(Int32.ofNat 1) < Int32.ofNat 0 by decide) (Int32.not_lt.mp c1)
        simp (disch := omega) only [U160_0, U160_1, U160_2, U160_3, U160_4, U160_7, U160_8, U160_9, U160_12, U160_13, U160_14, U160_17, U160_20, U160_21, U160_22, U160_25, U160_26, U160_27, U160_28, U160_31, U160_34, U160_35, U160_38, U160_39, X0.1, mp28 X0, mk20 X0, mn20 X0, y1, M_slotCount X0 X2 hs, V198, c4, wi, V207, show e < 2900 by omega, i_add, i_mul, i_sub, i_addn, i_lt, i_eq, i_idx, i_vp, true_and, and_true, false_and, and_false, if_true, if_false, Nat.reduceAdd, Nat.reduceMul, Nat.reduceSub, Nat.reduceEqDiff, Option.some.injEq, exists_eq_left', true_or, or_true, false_or, or_false, not_true_eq_false, not_false_eq_true, eq_self, and_self, Nat.reduceLeDiff, decide_true, decide_false, ne_eq, Nat.left_eq_add, Nat.add_eq_left, Nat.add_left_cancel_iff, Nat.add_zero]
      · have wi : ∀ (Q : Rs_ → MH_ → Prop), Wp 207 0 [.int (Int32.ofNat q), .int (Int32.ofNat 0), .int (Int32.ofNat ((slts ts).length - 1))] [] h Q ↔ Q (.inl (.int (Int32.ofNat 0))) h := by
          intro Q
          rw [M_within]
          exact iff_of_eq (congrArg (fun z => Q (.inl (.int z)) h) (bz_f (fun z => z.2 (by rw [i_lt (by omega) (by omega)]; omega))).symm)
        simp (disch := omega) only [U160_0, U160_1, U160_2, U160_3, U160_4, U160_7, U160_8, U160_9, U160_12, U160_13, U160_14, U160_17, U160_20, U160_21, U160_22, U160_25, U160_26, U160_27, U160_28, U160_31, U160_34, U160_35, U160_38, U160_39, X0.1, mp28 X0, mk20 X0, mn20 X0, y1, M_slotCount X0 X2 hs, V198, wi, V207, show e < 2900 by omega, i_add, i_mul, i_sub, i_addn, i_lt, i_eq, i_idx, i_vp, true_and, and_true, false_and, and_false, if_true, if_false, Nat.reduceAdd, Nat.reduceMul, Nat.reduceSub, Nat.reduceEqDiff, Option.some.injEq, exists_eq_left', true_or, or_true, false_or, or_false, not_true_eq_false, not_false_eq_true, eq_self, and_self, Nat.reduceLeDiff, decide_true, decide_false, ne_eq, Nat.left_eq_add, Nat.add_eq_left, Nat.add_left_cancel_iff, Nat.add_zero]
end
