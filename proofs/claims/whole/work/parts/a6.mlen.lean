/-! ===== the model: length, letter ===== -/
section
variable {h h' : MH_} {m : Nat} {S : Nat → Nat → Prop} {tx : List Nat} {si : List (List Tok)} {nm : Nat → List Nat} {ar : List Arg} {wr : Nat → Wr} {fl : List Nat} {du : Nat} {cu : Bool} {es : List Ev} {br : Nat} {tm : List Tm} {Q : Rs_ → MH_ → Prop}
theorem MM.pj (X : MM h m tx si nm ar wr fl du cu es br tm) (f : Fz (SJ m) h h') : MM h' m tx si nm ar wr fl du cu es br tm := by
  obtain ⟨X0, X1, X2, X3, X4, X5, X6, X7, X8⟩ := X
  have g := f.mono (T := fun a i => (a = m ∧ i = 41) ∨ a = m + 31) (fun a i z => z)
  exact ⟨X0.fz g, X1.fz g (by intro a i z w; omega), X2.fz g (by intro a i z w; omega), X3.fz g (by intro a i z w; omega), X4.fz g (by intro a i z w; omega), X5.fz g (by intro a i z w; omega), X6.fz g (by intro a i z w; omega), X7.fz g (by intro a i z w; omega), X8.fz g (by intro a i z w; omega)⟩
/-- an event that was read is printed -/
theorem M_printEvent' {e : Nat} {y : Ev} (X : MM h m tx si nm ar wr fl du cu es br tm) (he : es[e]? = some y) (ok : ∀ y ∈ es, okL si y) : Wp 183 0 [.ref m, .int (Int32.ofNat e), .null, .null, .null, .null] [] h (fun w h' => w = .inl .null ∧ Mp h' m (prE nm si y) ∧ (prE nm si y).length ≤ 176 ∧ Fz (SJ m) h h') := by
  obtain ⟨X0, X1, X2, X3, X4, X5, X6, X7, X8⟩ := X
  obtain ⟨u1, u2, ts, hts, hfit⟩ := ok y (List.mem_of_getElem? he)
  have hel : e < es.length := by
    rcases Nat.lt_or_ge e es.length with z | z
    · exact z
    · rw [List.getElem?_eq_none z] at he; cases he
  have eD : si.getD y.2.1 [] = ts := by rw [List.getD_eq_getElem?_getD, hts]; rfl
  unfold prE
  rw [eD]
  have hl := X7.2.1
  exact M_printEvent (br := br) (es := es) X0 X2 X3 (X7.2.2.2.1 e y he) (by omega) hts hfit
theorem M_length {k : Int32} (ok : ∀ y ∈ es, okL si y) (X : MM h m tx si nm ar wr fl du cu es br tm) : Wp 169 0 [.ref m, .int k] [] h (@ite _ (liI k es) (liD k es) (fun v h' => PM h m (.int (Int32.ofNat (prE nm si (lnE es k.toNatClampNeg)).length)) 0 tx si nm ar wr fl du cu es br tm v h' ∧ Mp h' m (prE nm si (lnE es k.toNatClampNeg)) ∧ (prE nm si (lnE es k.toNatClampNeg)).length ≤ 176) (PM h m (.int (Int32.ofNat 0)) 1 tx si nm ar wr fl du cu es br tm)) := by
  have X' := X
  obtain ⟨X0, X1, X2, X3, X4, X5, X6, X7, X8⟩ := X
  have hl := X7.2.1
  by_cases c1 : liI k es
  · rw [if_pos c1]
    have b1 : ¬ (@bz (liI k es) (liD k es)) = Int32.ofNat 0 := by rw [@bz_0 _ (liD k es)]; exact fun z => z c1
    obtain ⟨q, hq, rfl⟩ := i_nat c1.1
    have ei := i_idx hq
    have hq4 : q < es.length := by have := c1.2; rw [ei] at this; exact this
    rw [ei]
    obtain ⟨Y, e0, f0⟩ := X'.th (k := 0)
    simp (disch := omega) only [U169_0, U169_1, U169_2, U169_3, U169_6, U169_9, U169_10, U169_13, U169_14, z_kd_sI, z_ln_sI, z_gI_sI, z_gJ_sI, z_gP_sI, z_nx_sI, z_rc_sI, z_rs_sI, z_em_sI, z_mi_sI, z_kd_sJ, z_ln_sJ, z_gI_sJ, z_gJ_sJ, z_gP_sJ, z_nx_sJ, z_rc_sJ, z_rs_sJ, z_em_sJ, z_mi_sJ, z_kd_sP, z_ln_sP, z_gI_sP, z_gJ_sP, z_gP_sP, z_nx_sP, z_rc_sP, z_rs_sP, z_em_sP, z_mi_sP, z_kd_nw, z_ln_nw, z_gI_nw, z_gJ_nw, z_gP_nw, z_nx_nw, z_rc_nw, z_rs_nw, z_em_nw, z_mi_nw, z_kd_cI, z_ln_cI, z_gI_cI, z_gJ_cI, z_gP_cI, z_nx_cI, z_rc_cI, z_rs_cI, z_em_cI, z_mi_cI, z_kd_cP, z_ln_cP, z_gI_cP, z_gJ_cP, z_gP_cP, z_nx_cP, z_rc_cP, z_rs_cP, z_em_cP, z_mi_cP, z_kd_wI, z_ln_wI, z_gI_wI, z_gJ_wI, z_gP_wI, z_nx_wI, z_rc_wI, z_rs_wI, z_em_wI, z_mi_wI, z_kd_wJ, z_ln_wJ, z_gI_wJ, z_gJ_wJ, z_gP_wJ, z_nx_wJ, z_rc_wJ, z_rs_wJ, z_em_wJ, z_mi_wJ, X0.1, M_isLine X0 X7, V165, b1, i_add, i_mul, i_sub, i_addn, i_lt, i_eq, i_idx, i_vp, true_and, and_true, false_and, and_false, if_true, if_false, Nat.reduceAdd, Nat.reduceMul, Nat.reduceSub, Nat.reduceEqDiff, Option.some.injEq, exists_eq_left', true_or, or_true, false_or, or_false, not_true_eq_false, not_false_eq_true, eq_self, and_self, Nat.reduceLeDiff, decide_true, decide_false, ne_eq, Nat.left_eq_add, Nat.add_eq_left, Nat.add_left_cancel_iff, Nat.add_zero]
    generalize sI_ h m 0 (Int32.ofNat 0) = h1 at *
    have Y0 := Y.1
    obtain ⟨p, -, hp, e25, hy, -⟩ := Y.2.2.2.2.2.2.2.1.line hq4
    simp (disch := omega) only [U169_17, U169_18, U169_21, U169_24, U169_25, U169_26, U169_27, U169_28, U169_31, U169_32, U169_33, Y0.1, e0, mp33 Y0, mk25 Y0, mn25 Y0, e25, show q < 2900 by omega, show ¬ (0 : Nat) < 0 by omega, i_add, i_mul, i_sub, i_addn, i_lt, i_eq, i_idx, i_vp, true_and, and_true, false_and, and_false, if_true, if_false, Nat.reduceAdd, Nat.reduceMul, Nat.reduceSub, Nat.reduceEqDiff, Option.some.injEq, exists_eq_left', true_or, or_true, false_or, or_false, not_true_eq_false, not_false_eq_true, eq_self, and_self, Nat.reduceLeDiff, decide_true, decide_false, ne_eq, Nat.left_eq_add, Nat.add_eq_left, Nat.add_left_cancel_iff, Nat.add_zero]
    refine Wp_use (M_printEvent' Y hy ok) ?_
    rintro _ h2 ⟨rfl, K2, l2, f2⟩
    have Z := Y.pj f2
    simp (disch := omega) only [V183, U169_36, U169_37, U169_40, Z.1.1, K2.1, i_add, i_mul, i_sub, i_addn, i_lt, i_eq, i_idx, i_vp, true_and, and_true, false_and, and_false, if_true, if_false, Nat.reduceAdd, Nat.reduceMul, Nat.reduceSub, Nat.reduceEqDiff, Option.some.injEq, exists_eq_left', true_or, or_true, false_or, or_false, not_true_eq_false, not_false_eq_true, eq_self, and_self, Nat.reduceLeDiff, decide_true, decide_false, ne_eq, Nat.left_eq_add, Nat.add_eq_left, Nat.add_left_cancel_iff, Nat.add_zero]
    exact ⟨⟨rfl, by rw [f2.gI (by unfold SJ; omega)]; exact e0, (f0.mono (fun a i z => by omega)).trans (f2.mono (fun a i z => by unfold SJ at z; omega)), Z⟩, K2, l2⟩
  · rw [if_neg c1]
    have b1 : (@bz (liI k es) (liD k es)) = Int32.ofNat 0 := by rw [@bz_0 _ (liD k es)]; exact c1
    simp (disch := omega) only [U169_0, U169_1, U169_2, U169_3, U169_6, U169_9, U169_10, U169_13, U169_14, U169_17, U169_18, U169_21, U169_24, U169_25, U169_26, U169_27, U169_28, U169_31, U169_32, U169_33, U169_36, U169_37, U169_40, z_kd_sI, z_ln_sI, z_gI_sI, z_gJ_sI, z_gP_sI, z_nx_sI, z_rc_sI, z_rs_sI, z_em_sI, z_mi_sI, z_kd_sJ, z_ln_sJ, z_gI_sJ, z_gJ_sJ, z_gP_sJ, z_nx_sJ, z_rc_sJ, z_rs_sJ, z_em_sJ, z_mi_sJ, z_kd_sP, z_ln_sP, z_gI_sP, z_gJ_sP, z_gP_sP, z_nx_sP, z_rc_sP, z_rs_sP, z_em_sP, z_mi_sP, z_kd_nw, z_ln_nw, z_gI_nw, z_gJ_nw, z_gP_nw, z_nx_nw, z_rc_nw, z_rs_nw, z_em_nw, z_mi_nw, z_kd_cI, z_ln_cI, z_gI_cI, z_gJ_cI, z_gP_cI, z_nx_cI, z_rc_cI, z_rs_cI, z_em_cI, z_mi_cI, z_kd_cP, z_ln_cP, z_gI_cP, z_gJ_cP, z_gP_cP, z_nx_cP, z_rc_cP, z_rs_cP, z_em_cP, z_mi_cP, z_kd_wI, z_ln_wI, z_gI_wI, z_gJ_wI, z_gP_wI, z_nx_wI, z_rc_wI, z_rs_wI, z_em_wI, z_mi_wI, z_kd_wJ, z_ln_wJ, z_gI_wJ, z_gJ_wJ, z_gP_wJ, z_nx_wJ, z_rc_wJ, z_rs_wJ, z_em_wJ, z_mi_wJ, X0.1, M_isLine X0 X7, V165, b1, show (0 : Nat) < 1 by omega, i_add, i_mul, i_sub, i_addn, i_lt, i_eq, i_idx, i_vp, true_and, and_true, false_and, and_false, if_true, if_false, Nat.reduceAdd, Nat.reduceMul, Nat.reduceSub, Nat.reduceEqDiff, Option.some.injEq, exists_eq_left', true_or, or_true, false_or, or_false, not_true_eq_false, not_false_eq_true, eq_self, and_self, Nat.reduceLeDiff, decide_true, decide_false, ne_eq, Nat.left_eq_add, Nat.add_eq_left, Nat.add_left_cancel_iff, Nat.add_zero]
    exact X'.pm
theorem PM.tr' {r r' : Value} {k k' : Nat} {h1 : MH_} {v v' : Rs_} {h2 : MH_} (P : PM h m r k tx si nm ar wr fl du cu es br tm v h1) (P' : PM h1 m r' k' tx si nm ar wr fl du cu es br tm v' h2) : PM h m r' k' tx si nm ar wr fl du cu es br tm v' h2 := ⟨P'.1, P'.2.1, P.2.2.1.trans P'.2.2.1, P'.2.2.2⟩
theorem M_letter {k j : Int32} (ok : ∀ y ∈ es, okL si y) (X : MM h m tx si nm ar wr fl du cu es br tm) : Wp 170 0 [.ref m, .int k, .int j, .null] [] h (@ite _ (liI k es) (liD k es) (@ite _ (flI j (prE nm si (lnE es k.toNatClampNeg))) (flD _ _) (PM h m (.int (Int32.ofNat ((prE nm si (lnE es k.toNatClampNeg)).getD j.toNatClampNeg 0))) 0 tx si nm ar wr fl du cu es br tm) (PM h m (.int (Int32.ofNat 0)) 2 tx si nm ar wr fl du cu es br tm)) (PM h m (.int (Int32.ofNat 0)) 1 tx si nm ar wr fl du cu es br tm)) := by
  have ml := M_length (k := k) ok X
  have X0 := X.1
  simp (disch := omega) only [U170_0, U170_1, U170_2, X0.1, i_add, i_mul, i_sub, i_addn, i_lt, i_eq, i_idx, i_vp, true_and, and_true, false_and, and_false, if_true, if_false, Nat.reduceAdd, Nat.reduceMul, Nat.reduceSub, Nat.reduceEqDiff, Option.some.injEq, exists_eq_left', true_or, or_true, false_or, or_false, not_true_eq_false, not_false_eq_true, eq_self, and_self, Nat.reduceLeDiff, decide_true, decide_false, ne_eq, Nat.left_eq_add, Nat.add_eq_left, Nat.add_left_cancel_iff, Nat.add_zero]
  by_cases c1 : liI k es
  · rw [if_pos c1] at ml ⊢
    refine Wp_use ml ?_
    rintro v h1 ⟨P1, K1, l1⟩
    obtain rfl := P1.1
    have Y := P1.2.2.2
    have Y0 := Y.1
    have e0 := P1.2.1
    generalize prE nm si (lnE es k.toNatClampNeg) = pr at *
    by_cases c2 : j < Int32.ofNat 0
    · rw [if_neg (fun z => z.1 c2)]
      simp (disch := omega) only [V169, U170_5, U170_6, U170_7, U170_8, U170_11, U170_14, U170_15, U170_18, U170_19, U170_22, U170_23, U170_24, U170_27, U170_28, U170_31, U170_32, U170_35, U170_36, U170_39, U170_42, U170_43, U170_46, U170_47, U170_50, U170_51, U170_52, z_kd_sI, z_ln_sI, z_gI_sI, z_gJ_sI, z_gP_sI, z_nx_sI, z_rc_sI, z_rs_sI, z_em_sI, z_mi_sI, z_kd_sJ, z_ln_sJ, z_gI_sJ, z_gJ_sJ, z_gP_sJ, z_nx_sJ, z_rc_sJ, z_rs_sJ, z_em_sJ, z_mi_sJ, z_kd_sP, z_ln_sP, z_gI_sP, z_gJ_sP, z_gP_sP, z_nx_sP, z_rc_sP, z_rs_sP, z_em_sP, z_mi_sP, z_kd_nw, z_ln_nw, z_gI_nw, z_gJ_nw, z_gP_nw, z_nx_nw, z_rc_nw, z_rs_nw, z_em_nw, z_mi_nw, z_kd_cI, z_ln_cI, z_gI_cI, z_gJ_cI, z_gP_cI, z_nx_cI, z_rc_cI, z_rs_cI, z_em_cI, z_mi_cI, z_kd_cP, z_ln_cP, z_gI_cP, z_gJ_cP, z_gP_cP, z_nx_cP, z_rc_cP, z_rs_cP, z_em_cP, z_mi_cP, z_kd_wI, z_ln_wI, z_gI_wI, z_gJ_wI, z_gP_wI, z_nx_wI, z_rc_wI, z_rs_wI, z_em_wI, z_mi_wI, z_kd_wJ, z_ln_wJ, z_gI_wJ, z_gJ_wJ, z_gP_wJ, z_nx_wJ, z_rc_wJ, z_rs_wJ, z_em_wJ, z_mi_wJ, Y0.1, e0, c2, show ¬ (0 : Nat) < 0 by omega, show (0 : Nat) < 2 by omega, i_add, i_mul, i_sub, i_addn, i_lt, i_eq, i_idx, i_vp, true_and, and_true, false_and, and_false, if_true, if_false, Nat.reduceAdd, Nat.reduceMul, Nat.reduceSub, Nat.reduceEqDiff, Option.some.injEq, exists_eq_left', true_or, or_true, false_or, or_false, not_true_eq_false, not_false_eq_true, eq_self, and_self, Nat.reduceLeDiff, decide_true, decide_false, ne_eq, Nat.left_eq_add, Nat.add_eq_left, Nat.add_left_cancel_iff, Nat.add_zero]
      exact P1.tr' Y.pm
    · obtain ⟨q, hq, rfl⟩ := i_nat c2
      have ei := i_idx hq
      by_cases c3 : q < pr.length
      · rw [if_pos ⟨c2, by rw [ei]; exact c3⟩, ei]
        simp (disch := omega) only [V169, U170_5, U170_6, U170_7, U170_8, U170_11, U170_14, U170_15, U170_18, U170_19, U170_22, U170_23, U170_24, U170_27, U170_28, U170_31, U170_32, U170_35, U170_36, U170_39, U170_42, U170_43, U170_46, U170_47, U170_50, U170_51, U170_52, z_kd_sI, z_ln_sI, z_gI_sI, z_gJ_sI, z_gP_sI, z_nx_sI, z_rc_sI, z_rs_sI, z_em_sI, z_mi_sI, z_kd_sJ, z_ln_sJ, z_gI_sJ, z_gJ_sJ, z_gP_sJ, z_nx_sJ, z_rc_sJ, z_rs_sJ, z_em_sJ, z_mi_sJ, z_kd_sP, z_ln_sP, z_gI_sP, z_gJ_sP, z_gP_sP, z_nx_sP, z_rc_sP, z_rs_sP, z_em_sP, z_mi_sP, z_kd_nw, z_ln_nw, z_gI_nw, z_gJ_nw, z_gP_nw, z_nx_nw, z_rc_nw, z_rs_nw, z_em_nw, z_mi_nw, z_kd_cI, z_ln_cI, z_gI_cI, z_gJ_cI, z_gP_cI, z_nx_cI, z_rc_cI, z_rs_cI, z_em_cI, z_mi_cI, z_kd_cP, z_ln_cP, z_gI_cP, z_gJ_cP, z_gP_cP, z_nx_cP, z_rc_cP, z_rs_cP, z_em_cP, z_mi_cP, z_kd_wI, z_ln_wI, z_gI_wI, z_gJ_wI, z_gP_wI, z_nx_wI, z_rc_wI, z_rs_wI, z_em_wI, z_mi_wI, z_kd_wJ, z_ln_wJ, z_gI_wJ, z_gJ_wJ, z_gP_wJ, z_nx_wJ, z_rc_wJ, z_rs_wJ, z_em_wJ, z_mi_wJ, Y0.1, e0, c3, mp42 Y0, mk31 Y0, mn31 Y0, K1.2 q c3, show q < 400 by omega, show ¬ q < 0 by omega, show ¬ (0 : Nat) < 0 by omega, i_add, i_mul, i_sub, i_addn, i_lt, i_eq, i_idx, i_vp, true_and, and_true, false_and, and_false, if_true, if_false, Nat.reduceAdd, Nat.reduceMul, Nat.reduceSub, Nat.reduceEqDiff, Option.some.injEq, exists_eq_left', true_or, or_true, false_or, or_false, not_true_eq_false, not_false_eq_true, eq_self, and_self, Nat.reduceLeDiff, decide_true, decide_false, ne_eq, Nat.left_eq_add, Nat.add_eq_left, Nat.add_left_cancel_iff, Nat.add_zero]
        exact P1.tr' Y.pm
      · rw [if_neg (fun z => by have := z.2; rw [ei] at this; omega)]
        simp (disch := omega) only [V169, U170_5, U170_6, U170_7, U170_8, U170_11, U170_14, U170_15, U170_18, U170_19, U170_22, U170_23, U170_24, U170_27, U170_28, U170_31, U170_32, U170_35, U170_36, U170_39, U170_42, U170_43, U170_46, U170_47, U170_50, U170_51, U170_52, z_kd_sI, z_ln_sI, z_gI_sI, z_gJ_sI, z_gP_sI, z_nx_sI, z_rc_sI, z_rs_sI, z_em_sI, z_mi_sI, z_kd_sJ, z_ln_sJ, z_gI_sJ, z_gJ_sJ, z_gP_sJ, z_nx_sJ, z_rc_sJ, z_rs_sJ, z_em_sJ, z_mi_sJ, z_kd_sP, z_ln_sP, z_gI_sP, z_gJ_sP, z_gP_sP, z_nx_sP, z_rc_sP, z_rs_sP, z_em_sP, z_mi_sP, z_kd_nw, z_ln_nw, z_gI_nw, z_gJ_nw, z_gP_nw, z_nx_nw, z_rc_nw, z_rs_nw, z_em_nw, z_mi_nw, z_kd_cI, z_ln_cI, z_gI_cI, z_gJ_cI, z_gP_cI, z_nx_cI, z_rc_cI, z_rs_cI, z_em_cI, z_mi_cI, z_kd_cP, z_ln_cP, z_gI_cP, z_gJ_cP, z_gP_cP, z_nx_cP, z_rc_cP, z_rs_cP, z_em_cP, z_mi_cP, z_kd_wI, z_ln_wI, z_gI_wI, z_gJ_wI, z_gP_wI, z_nx_wI, z_rc_wI, z_rs_wI, z_em_wI, z_mi_wI, z_kd_wJ, z_ln_wJ, z_gI_wJ, z_gJ_wJ, z_gP_wJ, z_nx_wJ, z_rc_wJ, z_rs_wJ, z_em_wJ, z_mi_wJ, Y0.1, e0, c3, show ¬ q < 0 by omega, show ¬ (0 : Nat) < 0 by omega, show (0 : Nat) < 2 by omega, i_add, i_mul, i_sub, i_addn, i_lt, i_eq, i_idx, i_vp, true_and, and_true, false_and, and_false, if_true, if_false, Nat.reduceAdd, Nat.reduceMul, Nat.reduceSub, Nat.reduceEqDiff, Option.some.injEq, exists_eq_left', true_or, or_true, false_or, or_false, not_true_eq_false, not_false_eq_true, eq_self, and_self, Nat.reduceLeDiff, decide_true, decide_false, ne_eq, Nat.left_eq_add, Nat.add_eq_left, Nat.add_left_cancel_iff, Nat.add_zero]
        exact P1.tr' Y.pm
  · rw [if_neg c1] at ml ⊢
    refine Wp_use ml ?_
    intro v h1 P1
    obtain rfl := P1.1
    have Y := P1.2.2.2
    have Y0 := Y.1
    have e0 := P1.2.1
    simp (disch := omega) only [V169, U170_5, U170_6, U170_7, U170_8, U170_11, U170_14, U170_15, U170_18, U170_19, U170_22, U170_23, U170_24, U170_27, U170_28, U170_31, U170_32, U170_35, U170_36, U170_39, U170_42, U170_43, U170_46, U170_47, U170_50, U170_51, U170_52, z_kd_sI, z_ln_sI, z_gI_sI, z_gJ_sI, z_gP_sI, z_nx_sI, z_rc_sI, z_rs_sI, z_em_sI, z_mi_sI, z_kd_sJ, z_ln_sJ, z_gI_sJ, z_gJ_sJ, z_gP_sJ, z_nx_sJ, z_rc_sJ, z_rs_sJ, z_em_sJ, z_mi_sJ, z_kd_sP, z_ln_sP, z_gI_sP, z_gJ_sP, z_gP_sP, z_nx_sP, z_rc_sP, z_rs_sP, z_em_sP, z_mi_sP, z_kd_nw, z_ln_nw, z_gI_nw, z_gJ_nw, z_gP_nw, z_nx_nw, z_rc_nw, z_rs_nw, z_em_nw, z_mi_nw, z_kd_cI, z_ln_cI, z_gI_cI, z_gJ_cI, z_gP_cI, z_nx_cI, z_rc_cI, z_rs_cI, z_em_cI, z_mi_cI, z_kd_cP, z_ln_cP, z_gI_cP, z_gJ_cP, z_gP_cP, z_nx_cP, z_rc_cP, z_rs_cP, z_em_cP, z_mi_cP, z_kd_wI, z_ln_wI, z_gI_wI, z_gJ_wI, z_gP_wI, z_nx_wI, z_rc_wI, z_rs_wI, z_em_wI, z_mi_wI, z_kd_wJ, z_ln_wJ, z_gI_wJ, z_gJ_wJ, z_gP_wJ, z_nx_wJ, z_rc_wJ, z_rs_wJ, z_em_wJ, z_mi_wJ, Y0.1, e0, show (0 : Nat) < 1 by omega, i_add, i_mul, i_sub, i_addn, i_lt, i_eq, i_idx, i_vp, true_and, and_true, false_and, and_false, if_true, if_false, Nat.reduceAdd, Nat.reduceMul, Nat.reduceSub, Nat.reduceEqDiff, Option.some.injEq, exists_eq_left', true_or, or_true, false_or, or_false, not_true_eq_false, not_false_eq_true, eq_self, and_self, Nat.reduceLeDiff, decide_true, decide_false, ne_eq, Nat.left_eq_add, Nat.add_eq_left, Nat.add_left_cancel_iff, Nat.add_zero]
    exact P1.tr' Y.pm
end
