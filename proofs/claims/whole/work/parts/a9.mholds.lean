/-! ===== the model: isIn, holds ===== -/
section
variable {h h' : MH_} {m k e : Nat} {tx : List Nat} {si : List (List Tok)} {nm : Nat → List Nat} {ar : List Arg} {wr : Nat → Wr} {fl : List Nat} {du : Nat} {cu : Bool} {es : List Ev} {br : Nat} {tm : List Tm} {y : Ev}
theorem M_isIn {t : List Nat} (X : MM h m tx si nm ar wr fl du cu es br tm) (he : es[e]? = some y) (ok : ∀ y ∈ es, okL si y) (hk : tm[k]? = some (.inr t)) (b1 : ∀ i, (prE nm si y).getD i 0 < 256) (b2 : ∀ i, t.getD i 0 < 256) : Wp 164 0 [.ref m, .int (Int32.ofNat k), .int (Int32.ofNat e), .null, .null] [] h (fun v h' => v = .inl (.int (bz (cont (prE nm si y) t = true))) ∧ Fz (SJ m) h h') := by
  have X0 := X.1
  have X8 := X.2.2.2.2.2.2.2.2
  have q := X8.2.2 k _ hk
  have hk4 : k < 4 := by
    have := X8.2.1
    rcases Nat.lt_or_ge k tm.length with z | z
    · omega
    · rw [List.getElem?_eq_none z] at hk; cases hk
  simp (disch := omega) only [U164_0, U164_1, U164_2, X0.1, i_add, i_mul, i_sub, i_addn, i_lt, i_eq, i_idx, i_vp, true_and, and_true, false_and, and_false, if_true, if_false, Nat.reduceAdd, Nat.reduceMul, Nat.reduceSub, Nat.reduceEqDiff, Option.some.injEq, exists_eq_left', true_or, or_true, false_or, or_false, not_true_eq_false, not_false_eq_true, eq_self, and_self, Nat.reduceLeDiff, decide_true, decide_false, ne_eq, Nat.left_eq_add, Nat.add_eq_left, Nat.add_left_cancel_iff, Nat.add_zero]
  refine Wp_use (M_printEvent' X he ok) ?_
  rintro _ h1 ⟨rfl, K1, l1, f1⟩
  have Y0 := X0.fz f1
  simp (disch := omega) only [V183, U164_5, U164_6, i_add, i_mul, i_sub, i_addn, i_lt, i_eq, i_idx, i_vp, true_and, and_true, false_and, and_false, if_true, if_false, Nat.reduceAdd, Nat.reduceMul, Nat.reduceSub, Nat.reduceEqDiff, Option.some.injEq, exists_eq_left', true_or, or_true, false_or, or_false, not_true_eq_false, not_false_eq_true, eq_self, and_self, Nat.reduceLeDiff, decide_true, decide_false, ne_eq, Nat.left_eq_add, Nat.add_eq_left, Nat.add_left_cancel_iff, Nat.add_zero]
  rw [isIn_loop (t := t) Y0 K1 l1 hk4 (by rw [f1.gI (by unfold SJ; omega)]; exact q.2.1) q.2.2.1 (fun i hi => by rw [f1.gI (by unfold SJ; omega)]; exact q.2.2.2 i hi) b1 b2 _ 0 _ (Nat.sub_zero _).symm (by omega)]
  exact ⟨rfl, f1⟩
end
