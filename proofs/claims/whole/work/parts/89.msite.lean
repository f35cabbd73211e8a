/-! ===== the model: site ===== -/
section
variable {h h' : MH_} {m : Nat} {S : Nat → Nat → Prop} {tx : List Nat} {si : List (List Tok)} {nm : Nat → List Nat} {ar : List Arg} {wr : Nat → Wr} {fl : List Nat} {du : Nat} {cu : Bool} {es : List Ev} {br : Nat} {tm : List Tm}
theorem M_formatFault {Q : Rs_ → MH_ → Prop} (X0 : MS h m) (X1 : MT h m tx) : Wp 159 0 [.ref m, .null, .null, .null] [] h Q ↔ Q (.inl (.int (ffI (fm tx 0 0)))) h := by
  simp (disch := omega) only [U159_0, U159_1, U159_2, U159_3, i_add, i_mul, i_sub, i_addn, i_lt, i_eq, i_idx, i_vp, true_and, and_true, false_and, and_false, if_true, if_false, Nat.reduceAdd, Nat.reduceMul, Nat.reduceSub, Nat.reduceEqDiff, Option.some.injEq, exists_eq_left', true_or, or_true, false_or, or_false, not_true_eq_false, not_false_eq_true, eq_self, and_self, Nat.reduceLeDiff, decide_true, decide_false, ne_eq, Nat.left_eq_add, Nat.add_eq_left, Nat.add_left_cancel_iff, Nat.add_zero]
  exact M_ff X0 X1 tx.length tx (Nat.le_refl _) 0 0 .null rfl (Nat.zero_le _) (by omega)
def PMS (h : MH_) (m : Nat) (tx : List Nat) (si : List (List Tok)) (nm : Nat → List Nat) (ar : List Arg) (wr : Nat → Wr) (fl : List Nat) (du : Nat) (cu : Bool) (es : List Ev) (br : Nat) (tm : List Tm) : Rs_ → MH_ → Prop :=
  match fm tx 0 0 with
  | .inl q => PM h m (.int (-(Int32.ofNat 1) - Int32.ofNat q)) 0 [] si nm ar wr fl du cu es br tm
  | .inr ts => match fdS tx si 0 with
    | some k => PM h m (.int (Int32.ofNat k)) 0 [] si nm ar wr fl du cu es br tm
    | none => if si.length = 40 then PM h m (.int (Int32.ofNat 0)) 1 [] si nm ar wr fl du cu es br tm else PM h m (.int (Int32.ofNat si.length)) 0 [] (si ++ [ts]) nm ar wr fl du cu es br tm
theorem fm_len : ∀ N r, r.length ≤ N → ∀ p n ts, fm r p n = .inr ts → (slts ts).length + n ≤ 6 ∨ (ts.all (fun t => t.isLeft) = true) := by
  intro N r hr p n ts h
  sorry
theorem M_site (X : MM h m tx si nm ar wr fl du cu es br tm) : Wp 195 0 [.ref m, .null, .null, .null, .null, .null] [] h (PMS h m tx si nm ar wr fl du cu es br tm) := by
  obtain ⟨X0, X1, X2, X3, X4, X5, X6, X7, X8⟩ := X
  have h200 := X1.2.1
  have h40 := X2.2.1
  have X0' : MS (sI_ h m 0 (Int32.ofNat 0)) m := X0.fz (Fz.rfl'.sI (S := fun a i => a = m ∧ i = 0) ⟨rfl, rfl⟩)
  have X1' : MT (sI_ h m 0 (Int32.ofNat 0)) m tx := X1.fz (Fz.rfl'.sI (S := fun a i => a = m ∧ i = 0) ⟨rfl, rfl⟩) (by intro a i z w; omega)
  have e1 : gI_ (sI_ h m 0 (Int32.ofNat 0)) m 1 = Int32.ofNat tx.length := X1'.1
  have f0 : Fz (fun a i => a = m ∧ (i = 0 ∨ i = 1)) h (sI_ (sI_ h m 0 (Int32.ofNat 0)) m 1 (Int32.ofNat 0)) := (Fz.rfl'.sI ⟨rfl, Or.inl rfl⟩).sI ⟨rfl, Or.inr rfl⟩
  have g0 : gI_ (sI_ (sI_ h m 0 (Int32.ofNat 0)) m 1 (Int32.ofNat 0)) m 0 = Int32.ofNat 0 := by rw [z_gI_sI, if_neg (by omega), z_gI_sI, if_pos ⟨rfl, rfl⟩]
  have g1 : gI_ (sI_ (sI_ h m 0 (Int32.ofNat 0)) m 1 (Int32.ofNat 0)) m 1 = Int32.ofNat 0 := by rw [z_gI_sI, if_pos ⟨rfl, rfl⟩]
  generalize hH : sI_ (sI_ h m 0 (Int32.ofNat 0)) m 1 (Int32.ofNat 0) = H at f0 g0 g1
  have Y0 := X0.fz f0
  have Y2 := X2.fz f0 (by intro a i z w; omega)
  have tt : ∀ i, i < tx.length → gI_ H (m + 1) i = Int32.ofNat (tx.getD i 0) := fun i hi => by rw [f0.gI (by omega), X1.2.2.1 i hi]
  have pm : ∀ r, PM h m r 0 [] si nm ar wr fl du cu es br tm (.inl r) H := fun r => ⟨rfl, g0, f0.mono (fun a i z => by omega), Y0, MT.nil f0 g1, Y2, X3.fz f0 (by intro a i z w; omega), X4.fz f0 (by intro a i z w; omega), X5.fz f0 (by intro a i z w; omega), X6.fz f0 (by intro a i z w; omega), X7.fz f0 (by intro a i z w; omega), X8.fz f0 (by intro a i z w; omega)⟩
  simp (disch := omega) only [U195_0, U195_1, U195_2, U195_5, U195_6, U195_9, U195_10, U195_11, U195_14, U195_15, U195_16, U195_17, X0.1, z_kd_sI, M_formatFault X0' X1', V159, e1, hH, i_add, i_mul, i_sub, i_addn, i_lt, i_eq, i_idx, i_vp, true_and, and_true, false_and, and_false, if_true, if_false, Nat.reduceAdd, Nat.reduceMul, Nat.reduceSub, Nat.reduceEqDiff, Option.some.injEq, exists_eq_left', true_or, or_true, false_or, or_false, not_true_eq_false, not_false_eq_true, eq_self, and_self, Nat.reduceLeDiff, decide_true, decide_false, ne_eq, Nat.left_eq_add, Nat.add_eq_left, Nat.add_left_cancel_iff, Nat.add_zero]
  unfold PMS
  cases hfm : fm tx 0 0 with
  | inl q =>
    have hq := fm_lt tx.length tx (Nat.le_refl _) 0 0 q hfm
    simp (disch := omega) only [U195_20, U195_21, U195_24, U195_25, U195_26, U195_27, ffI, show ¬ q < 0 by omega, i_lt, true_and, and_true, false_and, and_false, if_true, if_false, Nat.reduceAdd, Nat.reduceMul, Nat.reduceSub, Nat.reduceEqDiff, Option.some.injEq, exists_eq_left', true_or, or_true, false_or, or_false, not_true_eq_false, not_false_eq_true, eq_self, and_self, Nat.reduceLeDiff, decide_true, decide_false, ne_eq, Nat.left_eq_add, Nat.add_eq_left, Nat.add_left_cancel_iff, Nat.add_zero]
    exact pm _
  | inr ts =>
    obtain ⟨es1, es2⟩ := fm_ok tx.length tx (Nat.le_refl _) 0 0 ts hfm
    have hneg : -(Int32.ofNat 1) < Int32.ofNat 0 := by decide
    simp only
    simp (disch := omega) only [U195_20, U195_21, U195_24, U195_25, U195_26, U195_27, U195_28, U195_29, ffI, hneg, i_add, i_mul, i_sub, i_addn, i_lt, i_eq, i_idx, i_vp, true_and, and_true, false_and, and_false, if_true, if_false, Nat.reduceAdd, Nat.reduceMul, Nat.reduceSub, Nat.reduceEqDiff, Option.some.injEq, exists_eq_left', true_or, or_true, false_or, or_false, not_true_eq_false, not_false_eq_true, eq_self, and_self, Nat.reduceLeDiff, decide_true, decide_false, ne_eq, Nat.left_eq_add, Nat.add_eq_left, Nat.add_left_cancel_iff, Nat.add_zero]
    sorry
end
