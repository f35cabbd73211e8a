/-! ===== the model: isIn ===== -/
section
variable {h h' : MH_} {m k : Nat} {l t : List Nat} {Q : Rs_ → MH_ → Prop}
/-- the search in what was printed -/
theorem isIn_loop {e : Int32} (X0 : MS h m) (K : Mp h m l) (hl : l.length ≤ 176) (hk : k < 4) (e29 : gI_ h (m + 29) k = Int32.ofNat t.length) (t24 : t.length ≤ 24) (e30 : ∀ i, i < t.length → gI_ h (m + 30) (24 * k + i) = Int32.ofNat (t.getD i 0)) (b1 : ∀ i, l.getD i 0 < 256) (b2 : ∀ i, t.getD i 0 < 256) : ∀ n i z, n = l.length + 1 - t.length - i → i ≤ l.length + 1 → (Wp 164 7 [.ref m, .int (Int32.ofNat k), .int e, .int (Int32.ofNat i), z] [] h Q ↔ Q (.inl (.int (bz (anyF (stnd l t) n i = true)))) h) := by
  intro n
  induction n with
  | zero =>
    intro i z hn hi
    rw [U164_7]
    simp (disch := omega) only [U164_8, U164_9, U164_12, U164_13, U164_14, U164_15, U164_16, U164_19, U164_85, U164_86, X0.1, mp39 X0, mk29 X0, mn29 X0, e29, K.1, hk, show l.length < i + t.length by omega, i_add, i_mul, i_sub, i_addn, i_lt, i_eq, i_idx, i_vp, true_and, and_true, false_and, and_false, if_true, if_false, Nat.reduceAdd, Nat.reduceMul, Nat.reduceSub, Nat.reduceEqDiff, Option.some.injEq, exists_eq_left', true_or, or_true, false_or, or_false, not_true_eq_false, not_false_eq_true, eq_self, and_self, Nat.reduceLeDiff, decide_true, decide_false, ne_eq, Nat.left_eq_add, Nat.add_eq_left, Nat.add_left_cancel_iff, Nat.add_zero]
    rw [bz_f (p := anyF (stnd l t) 0 i = true) (by unfold anyF; decide)]
  | succ n ih =>
    intro i z hn hi
    have inner : ∀ r j, j + r = t.length → (∀ c, c < j → l.getD (i + c) 0 = t.getD c 0) → (Wp 164 25 [.ref m, .int (Int32.ofNat k), .int e, .int (Int32.ofNat i), .int (Int32.ofNat j)] [] h Q ↔ Q (.inl (.int (bz (anyF (stnd l t) (n + 1) i = true)))) h) := by
      intro r
      induction r with
      | zero =>
        intro j hj hc
        obtain rfl : j = t.length := by omega
        rw [U164_25]
        simp (disch := omega) only [U164_27, U164_28, U164_31, U164_32, U164_33, U164_66, U164_68, U164_69, U164_72, U164_73, U164_74, U164_77, U164_78, X0.1, mp39 X0, mk29 X0, mn29 X0, e29, hk, show ¬ t.length < t.length by omega, i_add, i_mul, i_sub, i_addn, i_lt, i_eq, i_idx, i_vp, true_and, and_true, false_and, and_false, if_true, if_false, Nat.reduceAdd, Nat.reduceMul, Nat.reduceSub, Nat.reduceEqDiff, Option.some.injEq, exists_eq_left', true_or, or_true, false_or, or_false, not_true_eq_false, not_false_eq_true, eq_self, and_self, Nat.reduceLeDiff, decide_true, decide_false, ne_eq, Nat.left_eq_add, Nat.add_eq_left, Nat.add_left_cancel_iff, Nat.add_zero]
        rw [bz_t (p := anyF (stnd l t) (n + 1) i = true) (by unfold anyF stnd; rw [decide_eq_true hc, Bool.true_or])]
      | succ r ihr =>
        intro j hj hc
        have q1 := b1 (i + j)
        have q2 := b2 j
        have p1 := K.2 (i + j) (by omega)
        have p2 := e30 j (by omega)
        rw [U164_25]
        by_cases c : l.getD (i + j) 0 = t.getD j 0
        · have go := ihr (j + 1) (by omega) (fun x hx => by
            by_cases hxj : x = j
            · subst hxj; exact c
            · exact hc x (by omega))
          simp (disch := omega) only [U164_27, U164_28, U164_31, U164_32, U164_33, U164_36, U164_37, U164_40, U164_41, U164_43, U164_44, U164_45, U164_46, U164_49, U164_51, U164_52, U164_53, U164_55, U164_56, U164_57, U164_60, U164_63, X0.1, mp39 X0, mk29 X0, mn29 X0, e29, mp42 X0, mk31 X0, mn31 X0, mp40 X0, mk30 X0, mn30 X0, p1, p2, hk, c, show j < t.length by omega, show i + j < 400 by omega, show 24 * k + j < 96 by omega, i_add, i_mul, i_sub, i_addn, i_lt, i_eq, i_idx, i_vp, true_and, and_true, false_and, and_false, if_true, if_false, Nat.reduceAdd, Nat.reduceMul, Nat.reduceSub, Nat.reduceEqDiff, Option.some.injEq, exists_eq_left', true_or, or_true, false_or, or_false, not_true_eq_false, not_false_eq_true, eq_self, and_self, Nat.reduceLeDiff, decide_true, decide_false, ne_eq, Nat.left_eq_add, Nat.add_eq_left, Nat.add_left_cancel_iff, Nat.add_zero]
          exact go
        · have go := ih (i + 1) (.int (Int32.ofNat j)) (by omega) (by omega)
          simp (disch := omega) only [U164_27, U164_28, U164_31, U164_32, U164_33, U164_36, U164_37, U164_40, U164_41, U164_43, U164_44, U164_45, U164_46, U164_49, U164_51, U164_52, U164_53, U164_55, U164_56, U164_57, U164_60, U164_63, U164_66, U164_68, U164_69, U164_72, U164_73, U164_74, U164_77, U164_78, U164_79, U164_82, X0.1, mp39 X0, mk29 X0, mn29 X0, e29, mp42 X0, mk31 X0, mn31 X0, mp40 X0, mk30 X0, mn30 X0, p1, p2, hk, c, show j < t.length by omega, show ¬ j = t.length by omega, show i + j < 400 by omega, show 24 * k + j < 96 by omega, i_add, i_mul, i_sub, i_addn, i_lt, i_eq, i_idx, i_vp, true_and, and_true, false_and, and_false, if_true, if_false, Nat.reduceAdd, Nat.reduceMul, Nat.reduceSub, Nat.reduceEqDiff, Option.some.injEq, exists_eq_left', true_or, or_true, false_or, or_false, not_true_eq_false, not_false_eq_true, eq_self, and_self, Nat.reduceLeDiff, decide_true, decide_false, ne_eq, Nat.left_eq_add, Nat.add_eq_left, Nat.add_left_cancel_iff, Nat.add_zero]
          rw [go]
          rw [bz_iff (p := anyF (stnd l t) (n + 1) i = true) (q := anyF (stnd l t) n (i + 1) = true) (by rw [anyF]; unfold stnd; rw [decide_eq_false (fun z => c (z j (by omega))), Bool.false_or])]
    rw [U164_7]
    simp (disch := omega) only [U164_8, U164_9, U164_12, U164_13, U164_14, U164_15, U164_16, U164_19, U164_22, U164_23, X0.1, mp39 X0, mk29 X0, mn29 X0, e29, K.1, hk, show ¬ l.length < i + t.length by omega, i_add, i_mul, i_sub, i_addn, i_lt, i_eq, i_idx, i_vp, true_and, and_true, false_and, and_false, if_true, if_false, Nat.reduceAdd, Nat.reduceMul, Nat.reduceSub, Nat.reduceEqDiff, Option.some.injEq, exists_eq_left', true_or, or_true, false_or, or_false, not_true_eq_false, not_false_eq_true, eq_self, and_self, Nat.reduceLeDiff, decide_true, decide_false, ne_eq, Nat.left_eq_add, Nat.add_eq_left, Nat.add_left_cancel_iff, Nat.add_zero]
    exact inner t.length 0 (by omega) (fun c hc => absurd hc (Nat.not_lt_zero _))
end
