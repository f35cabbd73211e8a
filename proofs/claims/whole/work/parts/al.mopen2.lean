/-! ===== the model: open, put together ===== -/
section
variable {h h' : MH_} {m : Nat} {tx : List Nat} {si : List (List Tok)} {nm : Nat → List Nat} {ar : List Arg} {wr : Nat → Wr} {fl : List Nat} {du : Nat} {cu : Bool} {es : List Ev} {br : Nat} {tm : List Tm}
theorem M_open (X : MM h m tx si nm ar wr fl du cu es br tm) : Wp 176 0 [.ref m, .null, .null] [] h (PM h m (.int (Int32.ofNat (rdA si fl).1.length)) 0 tx si nm ar wr fl du cu (rdA si fl).1 (rdA si fl).2 tm) := by
  obtain ⟨Y, e0, f0⟩ := X.th (k := 0)
  obtain ⟨X0, X1, X2, X3, X4, X5, X6, X7, X8⟩ := id Y
  have hl := X6.2.1
  simp (disch := omega) only [U176_0, U176_1, U176_2, U176_5, U176_6, X.1.1, i_add, i_mul, i_sub, i_addn, i_lt, i_eq, i_idx, i_vp, true_and, and_true, false_and, and_false, if_true, if_false, Nat.reduceAdd, Nat.reduceMul, Nat.reduceSub, Nat.reduceEqDiff, Option.some.injEq, exists_eq_left', true_or, or_true, false_or, or_false, not_true_eq_false, not_false_eq_true, eq_self, and_self, Nat.reduceLeDiff, decide_true, decide_false, ne_eq, Nat.left_eq_add, Nat.add_eq_left, Nat.add_left_cancel_iff, Nat.add_zero]
  generalize hh0 : sI_ h m 0 (Int32.ofNat 0) = h1 at *
  refine open_copy X0 X6 (fun h2 y F2 C2 g0 => ?_)
  have Y0 := X0.fz F2
  have e22 : gI_ h2 m 22 = Int32.ofNat fl.length := by rw [F2.gI (by unfold SOp; omega)]; exact X6.1
  have rest : ∀ h3 q, Rb h1 h3 m fl [] (if 0 < fl.length % 256 then 1 else 0) → Wp 176 60 [.ref m, .int (Int32.ofNat 0), q] [] h3 (PM h m (.int (Int32.ofNat (rdA si fl).1.length)) 0 tx si nm ar wr fl du cu (rdA si fl).1 (rdA si fl).2 tm) := by
    intro h3 q R3
    refine open_blocks X0 X2 X6 (rdA si fl) (fun h4 y4 R4 ok4 l4 => ?_) (fl.length / 256) 0 [] _ h3 q (by omega) (by simp) (fun q hq => absurd hq List.not_mem_nil) R3 rdA_eq.symm
    refine open_sort X0 R4 ok4 l4 (fun h5 y5 y6 R5 L5 => ?_) y4
    obtain ⟨F, C, V, e27, e34, e0'⟩ := R5
    have Z0 := X0.fz F
    simp (disch := omega) only [U176_174, U176_175, U176_178, Z0.1, e27, i_add, i_mul, i_sub, i_addn, i_lt, i_eq, i_idx, i_vp, true_and, and_true, false_and, and_false, if_true, if_false, Nat.reduceAdd, Nat.reduceMul, Nat.reduceSub, Nat.reduceEqDiff, Option.some.injEq, exists_eq_left', true_or, or_true, false_or, or_false, not_true_eq_false, not_false_eq_true, eq_self, and_self, Nat.reduceLeDiff, decide_true, decide_false, ne_eq, Nat.left_eq_add, Nat.add_eq_left, Nat.add_left_cancel_iff, Nat.add_zero]
    refine ⟨rfl, e0', (f0.mono (fun a i z => by omega)).trans (F.mono (by unfold SOp; intro a i z; omega)), Z0, X1.fz F (by unfold SOp; intro a i z w; omega), X2.fz F (by unfold SOp; intro a i z w; omega), X3.fz F (by unfold SOp; intro a i z w; omega), X4.fz F (by unfold SOp; intro a i z w; omega), X5.fz F (by unfold SOp; intro a i z w; omega), X6.fz F (by unfold SOp; intro a i z w; omega), ⟨e27, l4, e34, V, L5⟩, X8.fz F (by unfold SOp; intro a i z w; omega)⟩
  have fin : ∀ b, Rb h1 (sI_ (sI_ h2 m 27 (Int32.ofNat 0)) m 34 (Int32.ofNat b)) m fl [] b := by
    intro b
    have f : Fz (fun a i => a = m ∧ (i = 27 ∨ i = 34)) h2 (sI_ (sI_ h2 m 27 (Int32.ofNat 0)) m 34 (Int32.ofNat b)) := (Fz.rfl'.sI ⟨rfl, Or.inl rfl⟩).sI ⟨rfl, Or.inr rfl⟩
    exact ⟨F2.trans (f.mono (by unfold SOp; intro a i z; omega)), C2.fz f (fun i z => by omega), (fun i y hy => by cases hy), by rw [z_gI_sI, if_neg (by omega), z_gI_sI, if_pos ⟨rfl, rfl⟩]; rfl, by rw [z_gI_sI, if_pos ⟨rfl, rfl⟩], by rw [f.gI (by omega), g0]; exact e0⟩
  by_cases c : 0 < fl.length % 256
  · rw [if_pos c] at rest
    simp (disch := omega) only [U176_33, U176_34, U176_35, U176_38, U176_39, U176_40, U176_43, U176_46, U176_47, U176_50, U176_51, U176_54, U176_55, U176_58, U176_59, z_kd_sI, z_ln_sI, z_gI_sI, z_gJ_sI, z_gP_sI, z_nx_sI, z_rc_sI, z_rs_sI, z_em_sI, z_mi_sI, z_kd_sJ, z_ln_sJ, z_gI_sJ, z_gJ_sJ, z_gP_sJ, z_nx_sJ, z_rc_sJ, z_rs_sJ, z_em_sJ, z_mi_sJ, z_kd_sP, z_ln_sP, z_gI_sP, z_gJ_sP, z_gP_sP, z_nx_sP, z_rc_sP, z_rs_sP, z_em_sP, z_mi_sP, z_kd_nw, z_ln_nw, z_gI_nw, z_gJ_nw, z_gP_nw, z_nx_nw, z_rc_nw, z_rs_nw, z_em_nw, z_mi_nw, z_kd_cI, z_ln_cI, z_gI_cI, z_gJ_cI, z_gP_cI, z_nx_cI, z_rc_cI, z_rs_cI, z_em_cI, z_mi_cI, z_kd_cP, z_ln_cP, z_gI_cP, z_gJ_cP, z_gP_cP, z_nx_cP, z_rc_cP, z_rs_cP, z_em_cP, z_mi_cP, z_kd_wI, z_ln_wI, z_gI_wI, z_gJ_wI, z_gP_wI, z_nx_wI, z_rc_wI, z_rs_wI, z_em_wI, z_mi_wI, z_kd_wJ, z_ln_wJ, z_gI_wJ, z_gJ_wJ, z_gP_wJ, z_nx_wJ, z_rc_wJ, z_rs_wJ, z_em_wJ, z_mi_wJ, Y0.1, e22, i_rem, c, show ¬ (256 : Nat) = 0 by omega, i_add, i_mul, i_sub, i_addn, i_lt, i_eq, i_idx, i_vp, true_and, and_true, false_and, and_false, if_true, if_false, Nat.reduceAdd, Nat.reduceMul, Nat.reduceSub, Nat.reduceEqDiff, Option.some.injEq, exists_eq_left', true_or, or_true, false_or, or_false, not_true_eq_false, not_false_eq_true, eq_self, and_self, Nat.reduceLeDiff, decide_true, decide_false, ne_eq, Nat.left_eq_add, Nat.add_eq_left, Nat.add_left_cancel_iff, Nat.add_zero]
    exact rest _ _ (fin 1)
  · rw [if_neg c] at rest
    simp (disch := omega) only [U176_33, U176_34, U176_35, U176_38, U176_39, U176_40, U176_43, U176_46, U176_47, U176_50, U176_51, U176_54, U176_55, U176_58, U176_59, z_kd_sI, z_ln_sI, z_gI_sI, z_gJ_sI, z_gP_sI, z_nx_sI, z_rc_sI, z_rs_sI, z_em_sI, z_mi_sI, z_kd_sJ, z_ln_sJ, z_gI_sJ, z_gJ_sJ, z_gP_sJ, z_nx_sJ, z_rc_sJ, z_rs_sJ, z_em_sJ, z_mi_sJ, z_kd_sP, z_ln_sP, z_gI_sP, z_gJ_sP, z_gP_sP, z_nx_sP, z_rc_sP, z_rs_sP, z_em_sP, z_mi_sP, z_kd_nw, z_ln_nw, z_gI_nw, z_gJ_nw, z_gP_nw, z_nx_nw, z_rc_nw, z_rs_nw, z_em_nw, z_mi_nw, z_kd_cI, z_ln_cI, z_gI_cI, z_gJ_cI, z_gP_cI, z_nx_cI, z_rc_cI, z_rs_cI, z_em_cI, z_mi_cI, z_kd_cP, z_ln_cP, z_gI_cP, z_gJ_cP, z_gP_cP, z_nx_cP, z_rc_cP, z_rs_cP, z_em_cP, z_mi_cP, z_kd_wI, z_ln_wI, z_gI_wI, z_gJ_wI, z_gP_wI, z_nx_wI, z_rc_wI, z_rs_wI, z_em_wI, z_mi_wI, z_kd_wJ, z_ln_wJ, z_gI_wJ, z_gJ_wJ, z_gP_wJ, z_nx_wJ, z_rc_wJ, z_rs_wJ, z_em_wJ, z_mi_wJ, Y0.1, e22, i_rem, c, show ¬ (256 : Nat) = 0 by omega, i_add, i_mul, i_sub, i_addn, i_lt, i_eq, i_idx, i_vp, true_and, and_true, false_and, and_false, if_true, if_false, Nat.reduceAdd, Nat.reduceMul, Nat.reduceSub, Nat.reduceEqDiff, Option.some.injEq, exists_eq_left', true_or, or_true, false_or, or_false, not_true_eq_false, not_false_eq_true, eq_self, and_self, Nat.reduceLeDiff, decide_true, decide_false, ne_eq, Nat.left_eq_add, Nat.add_eq_left, Nat.add_left_cancel_iff, Nat.add_zero]
    exact rest _ _ (fin 0)
end
