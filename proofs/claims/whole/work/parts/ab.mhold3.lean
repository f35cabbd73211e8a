/-! ===== the model: holdAll ===== -/
section
variable {h h' : MH_} {m k e : Nat} {tx : List Nat} {si : List (List Tok)} {nm : Nat → List Nat} {ar : List Arg} {wr : Nat → Wr} {fl : List Nat} {du : Nat} {cu : Bool} {es : List Ev} {br : Nat} {tm : List Tm} {y : Ev}
theorem M_holdAll (X : MM h m tx si nm ar wr fl du cu es br tm) (he : es[e]? = some y) (ok : ∀ y ∈ es, okL si y) (b1 : ∀ i, (prE nm si y).getD i 0 < 256) (b2 : ∀ u, .inr u ∈ tm → ∀ i, u.getD i 0 < 256) : Wp 161 0 [.ref m, .int (Int32.ofNat e), .null, .null] [] h (fun v h' => v = .inl (.int (bz (hld nm si tm y = true))) ∧ Fz (SJ m) h h') := by
  have X0 := X.1
  have key : ∀ n k h1, k + n = tm.length → Fz (SJ m) h h1 → Wp 161 4 [.ref m, .int (Int32.ofNat e), .int (Int32.ofNat 1), .int (Int32.ofNat k)] [] h1 (fun v h' => v = .inl (.int (bz ((tm.drop k).all (tmH nm (si.getD y.2.1 []) y.1 y.2.1 y.2.2.2) = true))) ∧ Fz (SJ m) h h') := by
    intro n
    induction n with
    | zero =>
      intro k h1 hk f1
      have Y := X.pj f1
      have Y0 := Y.1
      have Y8 := Y.2.2.2.2.2.2.2.2
      have h4 := Y8.2.1
      rw [U161_4]
      simp (disch := omega) only [U161_0, U161_1, U161_2, U161_3, U161_5, U161_6, U161_9, U161_12, U161_13, U161_16, U161_17, U161_18, U161_19, U161_22, U161_23, U161_26, U161_29, U161_30, Y0.1, Y8.1, show ¬ k < tm.length by omega, i_add, i_mul, i_sub, i_addn, i_lt, i_eq, i_idx, i_vp, true_and, and_true, false_and, and_false, if_true, if_false, Nat.reduceAdd, Nat.reduceMul, Nat.reduceSub, Nat.reduceEqDiff, Option.some.injEq, exists_eq_left', true_or, or_true, false_or, or_false, not_true_eq_false, not_false_eq_true, eq_self, and_self, Nat.reduceLeDiff, decide_true, decide_false, ne_eq, Nat.left_eq_add, Nat.add_eq_left, Nat.add_left_cancel_iff, Nat.add_zero]
      refine ⟨?_, f1⟩
      rw [List.drop_of_length_le (by omega)]
      rfl
    | succ n ih =>
      intro k h1 hk f1
      have Y := X.pj f1
      have Y0 := Y.1
      have Y8 := Y.2.2.2.2.2.2.2.2
      have h4 := Y8.2.1
      have hkl : k < tm.length := by omega
      have hg := List.getElem?_eq_getElem hkl
      have edr : tm.drop k = tm[k] :: tm.drop (k + 1) := List.drop_eq_getElem_cons hkl
      rw [edr, List.all_cons]
      generalize tm[k] = t at *
      rw [U161_4]
      simp (disch := omega) only [U161_5, U161_6, U161_9, U161_12, U161_13, U161_16, U161_17, U161_18, U161_19, Y0.1, Y8.1, hkl, show ¬ (1 : Nat) = 0 by omega, i_add, i_mul, i_sub, i_addn, i_lt, i_eq, i_idx, i_vp, true_and, and_true, false_and, and_false, if_true, if_false, Nat.reduceAdd, Nat.reduceMul, Nat.reduceSub, Nat.reduceEqDiff, Option.some.injEq, exists_eq_left', true_or, or_true, false_or, or_false, not_true_eq_false, not_false_eq_true, eq_self, and_self, Nat.reduceLeDiff, decide_true, decide_false, ne_eq, Nat.left_eq_add, Nat.add_eq_left, Nat.add_left_cancel_iff, Nat.add_zero]
      refine Wp_use (M_holds Y he ok hg b1 (fun u hu => b2 u (by rw [← hu]; exact List.mem_of_getElem? hg))) ?_
      rintro _ h2 ⟨rfl, f2⟩
      have Z := Y.pj f2
      have Z0 := Z.1
      have Z8 := Z.2.2.2.2.2.2.2.2
      by_cases c : tmH nm (si.getD y.2.1 []) y.1 y.2.1 y.2.2.2 t = true
      · have e1 : bz (tmH nm (si.getD y.2.1 []) y.1 y.2.1 y.2.2.2 t = true) = Int32.ofNat 1 := (bz_t c).symm
        rw [c, Bool.true_and]
        rw [c] at e1
        simp (disch := omega) only [V162, U161_22, U161_23, U161_26, e1, i_add, i_mul, i_sub, i_addn, i_lt, i_eq, i_idx, i_vp, true_and, and_true, false_and, and_false, if_true, if_false, Nat.reduceAdd, Nat.reduceMul, Nat.reduceSub, Nat.reduceEqDiff, Option.some.injEq, exists_eq_left', true_or, or_true, false_or, or_false, not_true_eq_false, not_false_eq_true, eq_self, and_self, Nat.reduceLeDiff, decide_true, decide_false, ne_eq, Nat.left_eq_add, Nat.add_eq_left, Nat.add_left_cancel_iff, Nat.add_zero]
        exact ih (k + 1) h2 (by omega) (f1.trans f2)
      · have e1 : bz (tmH nm (si.getD y.2.1 []) y.1 y.2.1 y.2.2.2 t = true) = Int32.ofNat 0 := (bz_f c).symm
        have cf : tmH nm (si.getD y.2.1 []) y.1 y.2.1 y.2.2.2 t = false := by simpa using c
        rw [cf, Bool.false_and]
        rw [cf] at e1
        simp (disch := omega) only [V162, U161_22, U161_23, U161_26, e1, i_add, i_mul, i_sub, i_addn, i_lt, i_eq, i_idx, i_vp, true_and, and_true, false_and, and_false, if_true, if_false, Nat.reduceAdd, Nat.reduceMul, Nat.reduceSub, Nat.reduceEqDiff, Option.some.injEq, exists_eq_left', true_or, or_true, false_or, or_false, not_true_eq_false, not_false_eq_true, eq_self, and_self, Nat.reduceLeDiff, decide_true, decide_false, ne_eq, Nat.left_eq_add, Nat.add_eq_left, Nat.add_left_cancel_iff, Nat.add_zero]
        rw [U161_4]
        by_cases c2 : k + 1 < tm.length
        · simp (disch := omega) only [U161_5, U161_6, U161_9, U161_12, U161_13, U161_16, U161_17, U161_18, U161_19, U161_22, U161_23, U161_26, U161_29, U161_30, Z0.1, Z8.1, c2, i_add, i_mul, i_sub, i_addn, i_lt, i_eq, i_idx, i_vp, true_and, and_true, false_and, and_false, if_true, if_false, Nat.reduceAdd, Nat.reduceMul, Nat.reduceSub, Nat.reduceEqDiff, Option.some.injEq, exists_eq_left', true_or, or_true, false_or, or_false, not_true_eq_false, not_false_eq_true, eq_self, and_self, Nat.reduceLeDiff, decide_true, decide_false, ne_eq, Nat.left_eq_add, Nat.add_eq_left, Nat.add_left_cancel_iff, Nat.add_zero]
          exact f1.trans f2
        · simp (disch := omega) only [U161_5, U161_6, U161_9, U161_12, U161_13, U161_16, U161_17, U161_18, U161_19, U161_22, U161_23, U161_26, U161_29, U161_30, Z0.1, Z8.1, c2, i_add, i_mul, i_sub, i_addn, i_lt, i_eq, i_idx, i_vp, true_and, and_true, false_and, and_false, if_true, if_false, Nat.reduceAdd, Nat.reduceMul, Nat.reduceSub, Nat.reduceEqDiff, Option.some.injEq, exists_eq_left', true_or, or_true, false_or, or_false, not_true_eq_false, not_false_eq_true, eq_self, and_self, Nat.reduceLeDiff, decide_true, decide_false, ne_eq, Nat.left_eq_add, Nat.add_eq_left, Nat.add_left_cancel_iff, Nat.add_zero]
          exact f1.trans f2
  simp (disch := omega) only [U161_0, U161_1, U161_2, U161_3, i_add, i_mul, i_sub, i_addn, i_lt, i_eq, i_idx, i_vp, true_and, and_true, false_and, and_false, if_true, if_false, Nat.reduceAdd, Nat.reduceMul, Nat.reduceSub, Nat.reduceEqDiff, Option.some.injEq, exists_eq_left', true_or, or_true, false_or, or_false, not_true_eq_false, not_false_eq_true, eq_self, and_self, Nat.reduceLeDiff, decide_true, decide_false, ne_eq, Nat.left_eq_add, Nat.add_eq_left, Nat.add_left_cancel_iff, Nat.add_zero]
  exact key tm.length 0 h (by omega) Fz.rfl'
end
