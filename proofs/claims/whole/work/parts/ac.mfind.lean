/-! ===== the model: find ===== -/
section
variable {h h' : MH_} {m k e : Nat} {tx : List Nat} {si : List (List Tok)} {nm : Nat → List Nat} {ar : List Arg} {wr : Nat → Wr} {fl : List Nat} {du : Nat} {cu : Bool} {es : List Ev} {br : Nat} {tm : List Tm}
theorem M_find {fr : Int32} (ok : ∀ y ∈ es, okL si y) (b1 : ∀ y ∈ es, ∀ i, (prE nm si y).getD i 0 < 256) (b2 : ∀ u, .inr u ∈ tm → ∀ i, u.getD i 0 < 256) (X : MM h m tx si nm ar wr fl du cu es br tm) : Wp 156 0 [.ref m, .int fr, .null] [] h (PM h m (.int (fnF (fun k => hld nm si tm (lnE es k)) (es.length - fr.toNatClampNeg) fr.toNatClampNeg)) 0 tx si nm ar wr fl du cu es br tm) := by
  obtain ⟨Y, e0, f0⟩ := X.th (k := 0)
  have X0 := X.1
  have key : ∀ n k h1, n = es.length - k → k < 2147483648 → Fz (SJ m) (sI_ h m 0 (Int32.ofNat 0)) h1 → Wp 156 15 [.ref m, .int fr, .int (Int32.ofNat k)] [] h1 (PM h m (.int (fnF (fun k => hld nm si tm (lnE es k)) n k)) 0 tx si nm ar wr fl du cu es br tm) := by
    intro n
    induction n with
    | zero =>
      intro k h1 hn hk f1
      have Z := Y.pj f1
      have Z0 := Z.1
      have Z7 := Z.2.2.2.2.2.2.2.1
      have hl := Z7.2.1
      rw [U156_15]
      simp (disch := omega) only [U156_16, U156_17, U156_20, U156_44, U156_45, Z0.1, Z7.1, show ¬ k < es.length by omega, i_add, i_mul, i_sub, i_addn, i_lt, i_eq, i_idx, i_vp, true_and, and_true, false_and, and_false, if_true, if_false, Nat.reduceAdd, Nat.reduceMul, Nat.reduceSub, Nat.reduceEqDiff, Option.some.injEq, exists_eq_left', true_or, or_true, false_or, or_false, not_true_eq_false, not_false_eq_true, eq_self, and_self, Nat.reduceLeDiff, decide_true, decide_false, ne_eq, Nat.left_eq_add, Nat.add_eq_left, Nat.add_left_cancel_iff, Nat.add_zero]
      exact ⟨rfl, by rw [f1.gI (by unfold SJ; omega)]; exact e0, (f0.mono (fun a i z => by omega)).trans (f1.mono (fun a i z => by unfold SJ at z; omega)), Z⟩
    | succ n ih =>
      intro k h1 hn hk f1
      have Z := Y.pj f1
      have Z0 := Z.1
      have Z7 := Z.2.2.2.2.2.2.2.1
      have hl := Z7.2.1
      have hke : k < es.length := by omega
      obtain ⟨p, -, hp, e25, hy, -⟩ := Z7.line hke
      rw [U156_15]
      simp (disch := omega) only [U156_16, U156_17, U156_20, U156_23, U156_24, U156_25, U156_28, U156_29, U156_30, Z0.1, Z7.1, mp33 Z0, mk25 Z0, mn25 Z0, e25, hke, show k < 2900 by omega, i_add, i_mul, i_sub, i_addn, i_lt, i_eq, i_idx, i_vp, true_and, and_true, false_and, and_false, if_true, if_false, Nat.reduceAdd, Nat.reduceMul, Nat.reduceSub, Nat.reduceEqDiff, Option.some.injEq, exists_eq_left', true_or, or_true, false_or, or_false, not_true_eq_false, not_false_eq_true, eq_self, and_self, Nat.reduceLeDiff, decide_true, decide_false, ne_eq, Nat.left_eq_add, Nat.add_eq_left, Nat.add_left_cancel_iff, Nat.add_zero]
      refine Wp_use (M_holdAll Z hy ok (b1 _ (List.mem_of_getElem? hy)) b2) ?_
      rintro _ h2 ⟨rfl, f2⟩
      have f12 := f1.trans f2
      have V := Z.pj f2
      unfold fnF
      by_cases c : hld nm si tm (lnE es k) = true
      · rw [if_pos c]
        have e1 : bz (hld nm si tm (lnE es k) = true) = Int32.ofNat 1 := (bz_t c).symm
        simp (disch := omega) only [V161, U156_33, U156_36, U156_37, e1, show ¬ (1 : Nat) = 0 by omega, i_add, i_mul, i_sub, i_addn, i_lt, i_eq, i_idx, i_vp, true_and, and_true, false_and, and_false, if_true, if_false, Nat.reduceAdd, Nat.reduceMul, Nat.reduceSub, Nat.reduceEqDiff, Option.some.injEq, exists_eq_left', true_or, or_true, false_or, or_false, not_true_eq_false, not_false_eq_true, eq_self, and_self, Nat.reduceLeDiff, decide_true, decide_false, ne_eq, Nat.left_eq_add, Nat.add_eq_left, Nat.add_left_cancel_iff, Nat.add_zero]
        exact ⟨rfl, by rw [f12.gI (by unfold SJ; omega)]; exact e0, (f0.mono (fun a i z => by omega)).trans (f12.mono (fun a i z => by unfold SJ at z; omega)), V⟩
      · rw [if_neg c]
        have e1 : bz (hld nm si tm (lnE es k) = true) = Int32.ofNat 0 := (bz_f c).symm
        simp (disch := omega) only [V161, U156_33, U156_36, U156_37, U156_38, U156_41, e1, i_add, i_mul, i_sub, i_addn, i_lt, i_eq, i_idx, i_vp, true_and, and_true, false_and, and_false, if_true, if_false, Nat.reduceAdd, Nat.reduceMul, Nat.reduceSub, Nat.reduceEqDiff, Option.some.injEq, exists_eq_left', true_or, or_true, false_or, or_false, not_true_eq_false, not_false_eq_true, eq_self, and_self, Nat.reduceLeDiff, decide_true, decide_false, ne_eq, Nat.left_eq_add, Nat.add_eq_left, Nat.add_left_cancel_iff, Nat.add_zero]
        exact ih (k + 1) h2 (by omega) (by omega) f12
  by_cases c : fr < Int32.ofNat 0
  · have ez : fr.toNatClampNeg = 0 := by
      rw [Int32.lt_iff_toInt_lt, show (Int32.ofNat 0).toInt = 0 by decide] at c
      have : fr.toNatClampNeg = fr.toInt.toNat := rfl
      omega
    rw [ez]
    simp (disch := omega) only [U156_0, U156_1, U156_2, U156_5, U156_6, U156_9, U156_10, U156_13, U156_14, X0.1, c, i_add, i_mul, i_sub, i_addn, i_lt, i_eq, i_idx, i_vp, true_and, and_true, false_and, and_false, if_true, if_false, Nat.reduceAdd, Nat.reduceMul, Nat.reduceSub, Nat.reduceEqDiff, Option.some.injEq, exists_eq_left', true_or, or_true, false_or, or_false, not_true_eq_false, not_false_eq_true, eq_self, and_self, Nat.reduceLeDiff, decide_true, decide_false, ne_eq, Nat.left_eq_add, Nat.add_eq_left, Nat.add_left_cancel_iff, Nat.add_zero]
    exact key _ 0 _ rfl (by omega) Fz.rfl'
  · obtain ⟨q, hq, rfl⟩ := i_nat c
    rw [i_idx hq]
    simp (disch := omega) only [U156_0, U156_1, U156_2, U156_5, U156_6, U156_9, U156_10, U156_13, U156_14, X0.1, show ¬ q < 0 by omega, i_add, i_mul, i_sub, i_addn, i_lt, i_eq, i_idx, i_vp, true_and, and_true, false_and, and_false, if_true, if_false, Nat.reduceAdd, Nat.reduceMul, Nat.reduceSub, Nat.reduceEqDiff, Option.some.injEq, exists_eq_left', true_or, or_true, false_or, or_false, not_true_eq_false, not_false_eq_true, eq_self, and_self, Nat.reduceLeDiff, decide_true, decide_false, ne_eq, Nat.left_eq_add, Nat.add_eq_left, Nat.add_left_cancel_iff, Nat.add_zero]
    exact key _ q _ rfl hq Fz.rfl'
end
