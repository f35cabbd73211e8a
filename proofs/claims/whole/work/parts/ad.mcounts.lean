/-! ===== the model: counts, thrown ===== -/
section
variable {h h' : MH_} {m k e : Nat} {tx : List Nat} {si : List (List Tok)} {nm : Nat → List Nat} {ar : List Arg} {wr : Nat → Wr} {fl : List Nat} {du : Nat} {cu : Bool} {es : List Ev} {br : Nat} {tm : List Tm} {y : Ev}
theorem M_thrown {Q : Rs_ → MH_ → Prop} (X0 : MS h m) : Wp 203 0 [.ref m] [] h Q ↔ Q (.inl (.int (gI_ h m 0))) h := by
  simp (disch := omega) only [U203_0, U203_1, U203_4, X0.1, i_add, i_mul, i_sub, i_addn, i_lt, i_eq, i_idx, i_vp, true_and, and_true, false_and, and_false, if_true, if_false, Nat.reduceAdd, Nat.reduceMul, Nat.reduceSub, Nat.reduceEqDiff, Option.some.injEq, exists_eq_left', true_or, or_true, false_or, or_false, not_true_eq_false, not_false_eq_true, eq_self, and_self, Nat.reduceLeDiff, decide_true, decide_false, ne_eq, Nat.left_eq_add, Nat.add_eq_left, Nat.add_left_cancel_iff, Nat.add_zero]
theorem M_counts {x : Int32} (X : MM h m tx si nm ar wr fl du cu es br tm) (he : es[e]? = some y) (ok : ∀ y ∈ es, okL si y) (b1 : ∀ i, (prE nm si y).getD i 0 < 256) (b2 : ∀ u, .inr u ∈ tm → ∀ i, u.getD i 0 < 256) : Wp 151 0 [.ref m, .int (Int32.ofNat e), .int x] [] h (fun v h' => v = .inl (.int (bz ((isNI y.2.2.2 x && hld nm si tm y) = true))) ∧ Fz (SJ m) h h') := by
  have X' := X
  obtain ⟨X0, X1, X2, X3, X4, X5, X6, X7, X8⟩ := X
  have hel : e < es.length := by
    rcases Nat.lt_or_ge e es.length with z | z
    · exact z
    · rw [List.getElem?_eq_none z] at he; cases he
  have hl := X7.2.1
  have hM := X7.2.2.2.1 e y he
  obtain ⟨u1, u2, ts, hts, hfit⟩ := ok y (List.mem_of_getElem? he)
  by_cases d : isNI y.2.2.2 x = true
  · have n1 : ¬ bz (isNI y.2.2.2 x = true) = Int32.ofNat 0 := by rw [bz_0]; exact fun z => z d
    simp (disch := omega) only [U151_0, U151_1, U151_2, U151_3, U151_6, U151_9, U151_10, U151_11, X0.1, M_hasNumber X0 X2 hM (show e < 2856 by omega) hts hfit, V160, n1, i_add, i_mul, i_sub, i_addn, i_lt, i_eq, i_idx, i_vp, true_and, and_true, false_and, and_false, if_true, if_false, Nat.reduceAdd, Nat.reduceMul, Nat.reduceSub, Nat.reduceEqDiff, Option.some.injEq, exists_eq_left', true_or, or_true, false_or, or_false, not_true_eq_false, not_false_eq_true, eq_self, and_self, Nat.reduceLeDiff, decide_true, decide_false, ne_eq, Nat.left_eq_add, Nat.add_eq_left, Nat.add_left_cancel_iff, Nat.add_zero]
    refine Wp_use (M_holdAll X' he ok b1 b2) ?_
    rintro _ h2 ⟨rfl, f2⟩
    rw [d, Bool.true_and]
    by_cases c : hld nm si tm y = true
    · have e1 : bz (hld nm si tm y = true) = Int32.ofNat 1 := (bz_t c).symm
      simp (disch := omega) only [V161, U151_14, U151_17, U151_18, U151_21, U151_22, e1, show ¬ (1 : Nat) = 0 by omega, i_add, i_mul, i_sub, i_addn, i_lt, i_eq, i_idx, i_vp, true_and, and_true, false_and, and_false, if_true, if_false, Nat.reduceAdd, Nat.reduceMul, Nat.reduceSub, Nat.reduceEqDiff, Option.some.injEq, exists_eq_left', true_or, or_true, false_or, or_false, not_true_eq_false, not_false_eq_true, eq_self, and_self, Nat.reduceLeDiff, decide_true, decide_false, ne_eq, Nat.left_eq_add, Nat.add_eq_left, Nat.add_left_cancel_iff, Nat.add_zero]
      exact f2
    · have e1 : bz (hld nm si tm y = true) = Int32.ofNat 0 := (bz_f c).symm
      simp (disch := omega) only [V161, U151_14, U151_17, U151_18, U151_21, U151_22, e1, i_add, i_mul, i_sub, i_addn, i_lt, i_eq, i_idx, i_vp, true_and, and_true, false_and, and_false, if_true, if_false, Nat.reduceAdd, Nat.reduceMul, Nat.reduceSub, Nat.reduceEqDiff, Option.some.injEq, exists_eq_left', true_or, or_true, false_or, or_false, not_true_eq_false, not_false_eq_true, eq_self, and_self, Nat.reduceLeDiff, decide_true, decide_false, ne_eq, Nat.left_eq_add, Nat.add_eq_left, Nat.add_left_cancel_iff, Nat.add_zero]
      exact f2
  · have n1 : bz (isNI y.2.2.2 x = true) = Int32.ofNat 0 := by rw [bz_0]; exact d
    have df : isNI y.2.2.2 x = false := by simpa using d
    rw [df, Bool.false_and]
    simp (disch := omega) only [U151_0, U151_1, U151_2, U151_3, U151_6, U151_9, U151_10, U151_11, U151_14, U151_17, U151_18, U151_21, U151_22, X0.1, M_hasNumber X0 X2 hM (show e < 2856 by omega) hts hfit, V160, n1, i_add, i_mul, i_sub, i_addn, i_lt, i_eq, i_idx, i_vp, true_and, and_true, false_and, and_false, if_true, if_false, Nat.reduceAdd, Nat.reduceMul, Nat.reduceSub, Nat.reduceEqDiff, Option.some.injEq, exists_eq_left', true_or, or_true, false_or, or_false, not_true_eq_false, not_false_eq_true, eq_self, and_self, Nat.reduceLeDiff, decide_true, decide_false, ne_eq, Nat.left_eq_add, Nat.add_eq_left, Nat.add_left_cancel_iff, Nat.add_zero]
    exact ⟨rfl, Fz.rfl'⟩
end
