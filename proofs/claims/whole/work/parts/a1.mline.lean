/-! ===== the model: isLine, time, about ===== -/
section
variable {h h' : MH_} {m : Nat} {S : Nat → Nat → Prop} {tx : List Nat} {si : List (List Tok)} {nm : Nat → List Nat} {ar : List Arg} {wr : Nat → Wr} {fl : List Nat} {du : Nat} {cu : Bool} {es : List Ev} {br : Nat} {tm : List Tm} {Q : Rs_ → MH_ → Prop}
theorem M_isLine {k : Int32} (X0 : MS h m) (X7 : ME h m es br) : Wp 165 0 [.ref m, .int k] [] h Q ↔ Q (.inl (.int (@bz (liI k es) (liD k es)))) h := by
  have hl := X7.2.1
  by_cases c1 : k < Int32.ofNat 0
  · rw [← @bz_f _ (liD k es) (fun z => z.1 c1)]
    simp (disch := omega) only [U165_0, U165_1, U165_4, U165_5, U165_6, U165_9, U165_12, U165_13, U165_16, U165_17, c1, i_add, i_mul, i_sub, i_addn, i_lt, i_eq, i_idx, i_vp, true_and, and_true, false_and, and_false, if_true, if_false, Nat.reduceAdd, Nat.reduceMul, Nat.reduceSub, Nat.reduceEqDiff, Option.some.injEq, exists_eq_left', true_or, or_true, false_or, or_false, not_true_eq_false, not_false_eq_true, eq_self, and_self, Nat.reduceLeDiff, decide_true, decide_false, ne_eq, Nat.left_eq_add, Nat.add_eq_left, Nat.add_left_cancel_iff, Nat.add_zero]
  · obtain ⟨q, hq, rfl⟩ := i_nat c1
    have ei := i_idx hq
    by_cases c2 : q < es.length
    · rw [← @bz_t _ (liD _ es) ⟨c1, by rw [ei]; exact c2⟩]
      simp (disch := omega) only [U165_0, U165_1, U165_4, U165_5, U165_6, U165_9, U165_12, U165_13, U165_16, U165_17, X0.1, X7.1, show ¬ q < 0 by omega, c2, i_add, i_mul, i_sub, i_addn, i_lt, i_eq, i_idx, i_vp, true_and, and_true, false_and, and_false, if_true, if_false, Nat.reduceAdd, Nat.reduceMul, Nat.reduceSub, Nat.reduceEqDiff, Option.some.injEq, exists_eq_left', true_or, or_true, false_or, or_false, not_true_eq_false, not_false_eq_true, eq_self, and_self, Nat.reduceLeDiff, decide_true, decide_false, ne_eq, Nat.left_eq_add, Nat.add_eq_left, Nat.add_left_cancel_iff, Nat.add_zero]
    · rw [← @bz_f _ (liD _ es) (fun z => c2 (by have := z.2; rw [ei] at this; exact this))]
      simp (disch := omega) only [U165_0, U165_1, U165_4, U165_5, U165_6, U165_9, U165_12, U165_13, U165_16, U165_17, X0.1, X7.1, show ¬ q < 0 by omega, c2, i_add, i_mul, i_sub, i_addn, i_lt, i_eq, i_idx, i_vp, true_and, and_true, false_and, and_false, if_true, if_false, Nat.reduceAdd, Nat.reduceMul, Nat.reduceSub, Nat.reduceEqDiff, Option.some.injEq, exists_eq_left', true_or, or_true, false_or, or_false, not_true_eq_false, not_false_eq_true, eq_self, and_self, Nat.reduceLeDiff, decide_true, decide_false, ne_eq, Nat.left_eq_add, Nat.add_eq_left, Nat.add_left_cancel_iff, Nat.add_zero]
theorem ME.line {k : Nat} (X7 : ME h m es br) (hk : k < es.length) : ∃ p : Nat, p = (odA es).getD k 0 ∧ p < es.length ∧ gI_ h (m + 25) k = Int32.ofNat p ∧ es[p]? = some (lnE es k) ∧ M1 h m p (lnE es k) := by
  obtain ⟨o1, o2, o3⟩ := odA_inv es
  have hp := o3 _ (gD_mem (show k < (odA es).length by omega))
  have he : es[(odA es).getD k 0]? = some (lnE es k) := by
    unfold lnE
    rw [List.getD_eq_getElem?_getD (l := es), List.getElem?_eq_getElem hp]
    rfl
  exact ⟨_, rfl, hp, X7.2.2.2.2 k hk, he, X7.2.2.2.1 _ _ he⟩
theorem M_time {k : Int32} (X : MM h m tx si nm ar wr fl du cu es br tm) : Wp 204 0 [.ref m, .int k] [] h (@ite _ (liI k es) (liD k es) (PM h m (.long (Int64.ofNat (lnE es k.toNatClampNeg).2.2.1)) 0 tx si nm ar wr fl du cu es br tm) (PM h m (.long (Int64.ofNat 0)) 1 tx si nm ar wr fl du cu es br tm)) := by
  have X' := X
  obtain ⟨X0, X1, X2, X3, X4, X5, X6, X7, X8⟩ := X
  have hl := X7.2.1
  by_cases c1 : liI k es
  · rw [if_pos c1]
    have b1 : ¬ (@bz (liI k es) (liD k es)) = Int32.ofNat 0 := by rw [@bz_0 _ (liD k es)]; exact fun z => z c1
    obtain ⟨q, hq, rfl⟩ := i_nat c1.1
    have ei := i_idx hq
    have hq4 : q < es.length := by have := c1.2; rw [ei] at this; exact this
    rw [ei]
    obtain ⟨p, -, hp, e25, -, e1⟩ := X7.line hq4
    simp (disch := omega) only [U204_0, U204_1, U204_2, U204_3, U204_6, U204_9, U204_10, U204_13, U204_14, U204_17, U204_18, U204_21, U204_24, U204_25, U204_28, U204_29, U204_32, U204_33, U204_36, U204_37, U204_38, U204_39, z_kd_sI, z_ln_sI, z_gI_sI, z_gJ_sI, z_gP_sI, z_nx_sI, z_rc_sI, z_rs_sI, z_em_sI, z_mi_sI, z_kd_sJ, z_ln_sJ, z_gI_sJ, z_gJ_sJ, z_gP_sJ, z_nx_sJ, z_rc_sJ, z_rs_sJ, z_em_sJ, z_mi_sJ, z_kd_sP, z_ln_sP, z_gI_sP, z_gJ_sP, z_gP_sP, z_nx_sP, z_rc_sP, z_rs_sP, z_em_sP, z_mi_sP, z_kd_nw, z_ln_nw, z_gI_nw, z_gJ_nw, z_gP_nw, z_nx_nw, z_rc_nw, z_rs_nw, z_em_nw, z_mi_nw, z_kd_cI, z_ln_cI, z_gI_cI, z_gJ_cI, z_gP_cI, z_nx_cI, z_rc_cI, z_rs_cI, z_em_cI, z_mi_cI, z_kd_cP, z_ln_cP, z_gI_cP, z_gJ_cP, z_gP_cP, z_nx_cP, z_rc_cP, z_rs_cP, z_em_cP, z_mi_cP, z_kd_wI, z_ln_wI, z_gI_wI, z_gJ_wI, z_gP_wI, z_nx_wI, z_rc_wI, z_rs_wI, z_em_wI, z_mi_wI, z_kd_wJ, z_ln_wJ, z_gI_wJ, z_gJ_wJ, z_gP_wJ, z_nx_wJ, z_rc_wJ, z_rs_wJ, z_em_wJ, z_mi_wJ, X0.1, M_isLine X0 X7, V165, b1, mp33 X0, mk25 X0, mn25 X0, mp30 X0, mk22 X0, mn22 X0, e25, e1.2.2.1, show q < 2900 by omega, show p < 2900 by omega, show ¬ (0 : Nat) < 0 by omega, i_add, i_mul, i_sub, i_addn, i_lt, i_eq, i_idx, i_vp, true_and, and_true, false_and, and_false, if_true, if_false, Nat.reduceAdd, Nat.reduceMul, Nat.reduceSub, Nat.reduceEqDiff, Option.some.injEq, exists_eq_left', true_or, or_true, false_or, or_false, not_true_eq_false, not_false_eq_true, eq_self, and_self, Nat.reduceLeDiff, decide_true, decide_false, ne_eq, Nat.left_eq_add, Nat.add_eq_left, Nat.add_left_cancel_iff, Nat.add_zero]
    exact X'.pm
  · rw [if_neg c1]
    have b1 : (@bz (liI k es) (liD k es)) = Int32.ofNat 0 := by rw [@bz_0 _ (liD k es)]; exact c1
    simp (disch := omega) only [U204_0, U204_1, U204_2, U204_3, U204_6, U204_9, U204_10, U204_13, U204_14, U204_17, U204_18, U204_21, U204_24, U204_25, U204_28, U204_29, U204_32, U204_33, U204_36, U204_37, U204_38, U204_39, z_kd_sI, z_ln_sI, z_gI_sI, z_gJ_sI, z_gP_sI, z_nx_sI, z_rc_sI, z_rs_sI, z_em_sI, z_mi_sI, z_kd_sJ, z_ln_sJ, z_gI_sJ, z_gJ_sJ, z_gP_sJ, z_nx_sJ, z_rc_sJ, z_rs_sJ, z_em_sJ, z_mi_sJ, z_kd_sP, z_ln_sP, z_gI_sP, z_gJ_sP, z_gP_sP, z_nx_sP, z_rc_sP, z_rs_sP, z_em_sP, z_mi_sP, z_kd_nw, z_ln_nw, z_gI_nw, z_gJ_nw, z_gP_nw, z_nx_nw, z_rc_nw, z_rs_nw, z_em_nw, z_mi_nw, z_kd_cI, z_ln_cI, z_gI_cI, z_gJ_cI, z_gP_cI, z_nx_cI, z_rc_cI, z_rs_cI, z_em_cI, z_mi_cI, z_kd_cP, z_ln_cP, z_gI_cP, z_gJ_cP, z_gP_cP, z_nx_cP, z_rc_cP, z_rs_cP, z_em_cP, z_mi_cP, z_kd_wI, z_ln_wI, z_gI_wI, z_gJ_wI, z_gP_wI, z_nx_wI, z_rc_wI, z_rs_wI, z_em_wI, z_mi_wI, z_kd_wJ, z_ln_wJ, z_gI_wJ, z_gJ_wJ, z_gP_wJ, z_nx_wJ, z_rc_wJ, z_rs_wJ, z_em_wJ, z_mi_wJ, X0.1, M_isLine X0 X7, V165, b1, show (0 : Nat) < 1 by omega, i_add, i_mul, i_sub, i_addn, i_lt, i_eq, i_idx, i_vp, true_and, and_true, false_and, and_false, if_true, if_false, Nat.reduceAdd, Nat.reduceMul, Nat.reduceSub, Nat.reduceEqDiff, Option.some.injEq, exists_eq_left', true_or, or_true, false_or, or_false, not_true_eq_false, not_false_eq_true, eq_self, and_self, Nat.reduceLeDiff, decide_true, decide_false, ne_eq, Nat.left_eq_add, Nat.add_eq_left, Nat.add_left_cancel_iff, Nat.add_zero]
    exact X'.pm
def PQm (h : MH_) (m : Nat) (w : Int32) (y : Ev) (tx : List Nat) (si : List (List Tok)) (nm : Nat → List Nat) (ar : List Arg) (wr : Nat → Wr) (fl : List Nat) (du : Nat) (cu : Bool) (es : List Ev) (br : Nat) (tm : List Tm) : Rs_ → MH_ → Prop :=
  @ite _ (abK w) (abD w) (PM h m (.int (Int32.ofNat 0)) 2 tx si nm ar wr fl du cu es br tm)
    (if w = -(Int32.ofNat 2) then PM h m (.int (Int32.ofNat y.1)) 0 tx si nm ar wr fl du cu es br tm
    else if w = -(Int32.ofNat 1) then PM h m (.int (Int32.ofNat y.2.1)) 0 tx si nm ar wr fl du cu es br tm
    else if w.toNatClampNeg < y.2.2.2.length then PM h m (.int (numA y.2.2.2 w.toNatClampNeg)) 0 tx si nm ar wr fl du cu es br tm
    else PM h m (.int (Int32.ofNat 0)) 1 tx si nm ar wr fl du cu es br tm)
theorem PM.tr {r : Value} {k : Nat} {h1 : MH_} {v : Rs_} {h2 : MH_} (f : Fz (fun a i => a = m ∧ i = 0) h h1) (P : PM h1 m r k tx si nm ar wr fl du cu es br tm v h2) : PM h m r k tx si nm ar wr fl du cu es br tm v h2 := ⟨P.1, P.2.1, (f.mono (fun a i z => by omega)).trans P.2.2.1, P.2.2.2⟩
theorem five_six {w : Int32} : Int32.ofNat 5 < w ↔ ¬ w < Int32.ofNat 6 := by
  rw [Int32.lt_iff_toInt_lt, Int32.lt_iff_toInt_lt, show (Int32.ofNat 5).toInt = 5 by decide, show (Int32.ofNat 6).toInt = 6 by decide]
  omega
theorem M_within_a {w : Int32} : Wp 207 0 [.int w, .int (-(Int32.ofNat 2)), .int (Int32.ofNat 5)] [] h Q ↔ Q (.inl (.int (@bz (¬ abK w) (@instDecidableNot _ (abD w))))) h := by
  rw [M_within]
  by_cases c : abK w
  · rw [← @bz_f _ (@instDecidableNot _ (abD w)) (fun z => z c), ← bz_f]
    rintro ⟨z1, z2⟩
    rcases c with c | c
    · exact z1 c
    · exact z2 (five_six.mpr c)
  · rw [← @bz_t _ (@instDecidableNot _ (abD w)) c, ← bz_t]
    exact ⟨fun z => c (Or.inl z), fun z => c (Or.inr (five_six.mp z))⟩
theorem M_about {k w : Int32} (ok : ∀ y ∈ es, okL si y) (X : MM h m tx si nm ar wr fl du cu es br tm) : Wp 143 0 [.ref m, .int k, .int w, .null] [] h (@ite _ (liI k es) (liD k es) (PQm h m w (lnE es k.toNatClampNeg) tx si nm ar wr fl du cu es br tm) (PM h m (.int (Int32.ofNat 0)) 1 tx si nm ar wr fl du cu es br tm)) := by
  have X' := X
  obtain ⟨X0, X1, X2, X3, X4, X5, X6, X7, X8⟩ := X
  have hl := X7.2.1
  by_cases c1 : liI k es
  · rw [if_pos c1]
    have b1 : ¬ (@bz (liI k es) (liD k es)) = Int32.ofNat 0 := by rw [@bz_0 _ (liD k es)]; exact fun z => z c1
    obtain ⟨q, hq, rfl⟩ := i_nat c1.1
    have ei := i_idx hq
    have hq4 : q < es.length := by have := c1.2; rw [ei] at this; exact this
    rw [ei]
    unfold PQm
    by_cases c2 : abK w
    · rw [if_pos c2]
      have b2 : (@bz (¬ abK w) (@instDecidableNot _ (abD w))) = Int32.ofNat 0 := by rw [@bz_0 _ (@instDecidableNot _ (abD w))]; exact fun z => z c2
      simp (disch := omega) only [U143_0, U143_1, U143_2, U143_3, U143_6, U143_9, U143_10, U143_13, U143_14, U143_16, U143_17, U143_20, U143_23, U143_24, U143_27, U143_28, U143_31, U143_32, U143_35, U143_38, U143_39, U143_40, U143_41, U143_44, U143_45, U143_46, U143_47, U143_48, U143_51, U143_52, U143_54, U143_57, U143_58, U143_61, U143_62, U143_63, U143_66, U143_67, U143_70, U143_71, U143_72, U143_73, U143_74, U143_75, U143_76, U143_77, U143_80, U143_81, U143_82, U143_85, U143_88, U143_89, U143_92, U143_93, U143_96, U143_97, U143_100, U143_103, U143_104, U143_107, U143_108, U143_111, U143_113, U143_114, U143_115, U143_116, U143_117, U143_118, z_kd_sI, z_ln_sI, z_gI_sI, z_gJ_sI, z_gP_sI, z_nx_sI, z_rc_sI, z_rs_sI, z_em_sI, z_mi_sI, z_kd_sJ, z_ln_sJ, z_gI_sJ, z_gJ_sJ, z_gP_sJ, z_nx_sJ, z_rc_sJ, z_rs_sJ, z_em_sJ, z_mi_sJ, z_kd_sP, z_ln_sP, z_gI_sP, z_gJ_sP, z_gP_sP, z_nx_sP, z_rc_sP, z_rs_sP, z_em_sP, z_mi_sP, z_kd_nw, z_ln_nw, z_gI_nw, z_gJ_nw, z_gP_nw, z_nx_nw, z_rc_nw, z_rs_nw, z_em_nw, z_mi_nw, z_kd_cI, z_ln_cI, z_gI_cI, z_gJ_cI, z_gP_cI, z_nx_cI, z_rc_cI, z_rs_cI, z_em_cI, z_mi_cI, z_kd_cP, z_ln_cP, z_gI_cP, z_gJ_cP, z_gP_cP, z_nx_cP, z_rc_cP, z_rs_cP, z_em_cP, z_mi_cP, z_kd_wI, z_ln_wI, z_gI_wI, z_gJ_wI, z_gP_wI, z_nx_wI, z_rc_wI, z_rs_wI, z_em_wI, z_mi_wI, z_kd_wJ, z_ln_wJ, z_gI_wJ, z_gJ_wJ, z_gP_wJ, z_nx_wJ, z_rc_wJ, z_rs_wJ, z_em_wJ, z_mi_wJ, X0.1, M_isLine X0 X7, V165, M_within_a, V207, b1, b2, show (0 : Nat) < 2 by omega, i_add, i_mul, i_sub, i_addn, i_lt, i_eq, i_idx, i_vp, true_and, and_true, false_and, and_false, if_true, if_false, Nat.reduceAdd, Nat.reduceMul, Nat.reduceSub, Nat.reduceEqDiff, Option.some.injEq, exists_eq_left', true_or, or_true, false_or, or_false, not_true_eq_false, not_false_eq_true, eq_self, and_self, Nat.reduceLeDiff, decide_true, decide_false, ne_eq, Nat.left_eq_add, Nat.add_eq_left, Nat.add_left_cancel_iff, Nat.add_zero]
      exact X'.pm
    · rw [if_neg c2]
      have b2 : ¬ (@bz (¬ abK w) (@instDecidableNot _ (abD w))) = Int32.ofNat 0 := by rw [@bz_0 _ (@instDecidableNot _ (abD w))]; exact fun z => z c2
      obtain ⟨Y, e0, f0⟩ := X'.th (k := 0)
      simp (disch := omega) only [U143_0, U143_1, U143_2, U143_3, U143_6, U143_9, U143_10, U143_13, U143_14, U143_16, U143_17, U143_20, U143_23, U143_24, U143_27, U143_28, z_kd_sI, z_ln_sI, z_gI_sI, z_gJ_sI, z_gP_sI, z_nx_sI, z_rc_sI, z_rs_sI, z_em_sI, z_mi_sI, z_kd_sJ, z_ln_sJ, z_gI_sJ, z_gJ_sJ, z_gP_sJ, z_nx_sJ, z_rc_sJ, z_rs_sJ, z_em_sJ, z_mi_sJ, z_kd_sP, z_ln_sP, z_gI_sP, z_gJ_sP, z_gP_sP, z_nx_sP, z_rc_sP, z_rs_sP, z_em_sP, z_mi_sP, z_kd_nw, z_ln_nw, z_gI_nw, z_gJ_nw, z_gP_nw, z_nx_nw, z_rc_nw, z_rs_nw, z_em_nw, z_mi_nw, z_kd_cI, z_ln_cI, z_gI_cI, z_gJ_cI, z_gP_cI, z_nx_cI, z_rc_cI, z_rs_cI, z_em_cI, z_mi_cI, z_kd_cP, z_ln_cP, z_gI_cP, z_gJ_cP, z_gP_cP, z_nx_cP, z_rc_cP, z_rs_cP, z_em_cP, z_mi_cP, z_kd_wI, z_ln_wI, z_gI_wI, z_gJ_wI, z_gP_wI, z_nx_wI, z_rc_wI, z_rs_wI, z_em_wI, z_mi_wI, z_kd_wJ, z_ln_wJ, z_gI_wJ, z_gJ_wJ, z_gP_wJ, z_nx_wJ, z_rc_wJ, z_rs_wJ, z_em_wJ, z_mi_wJ, X0.1, M_isLine X0 X7, V165, M_within_a, V207, b1, b2, i_add, i_mul, i_sub, i_addn, i_lt, i_eq, i_idx, i_vp, true_and, and_true, false_and, and_false, if_true, if_false, Nat.reduceAdd, Nat.reduceMul, Nat.reduceSub, Nat.reduceEqDiff, Option.some.injEq, exists_eq_left', true_or, or_true, false_or, or_false, not_true_eq_false, not_false_eq_true, eq_self, and_self, Nat.reduceLeDiff, decide_true, decide_false, ne_eq, Nat.left_eq_add, Nat.add_eq_left, Nat.add_left_cancel_iff, Nat.add_zero]
      generalize hh : sI_ h m 0 (Int32.ofNat 0) = h1 at *
      obtain ⟨Y0, Y1, Y2, Y3, Y4, Y5, Y6, Y7, Y8⟩ := id Y
      obtain ⟨p, -, hp, e25, hy, y1, y2, y3, y4, y5⟩ := Y7.line hq4
      obtain ⟨u1, u2, ts, hts, hfit⟩ := ok _ (List.mem_of_getElem? hy)
      generalize lnE es q = y at *
      have fle := fit_len hfit
      have s40 := (si_lt Y2 hts).1
      have fin : ∀ r : Value, PM h m r 0 tx si nm ar wr fl du cu es br tm (.inl r) h1 := fun r => ⟨rfl, e0, f0.mono (fun a i z => by omega), Y⟩
      by_cases d1 : w = -(Int32.ofNat 2)
      · rw [if_pos d1]
        subst d1
        simp (disch := omega) only [U143_31, U143_32, U143_35, U143_38, U143_39, U143_40, U143_41, U143_44, U143_45, U143_46, U143_47, U143_48, U143_51, U143_52, U143_54, U143_57, U143_58, U143_61, U143_62, U143_63, U143_66, U143_67, U143_70, U143_71, U143_72, U143_73, U143_74, U143_75, U143_76, U143_77, U143_80, U143_81, U143_82, U143_85, U143_88, U143_89, U143_92, U143_93, U143_96, U143_97, U143_100, U143_103, U143_104, U143_107, U143_108, U143_111, U143_113, U143_114, U143_115, U143_116, U143_117, U143_118, Y0.1, e0, mp33 Y0, mk25 Y0, mn25 Y0, e25, mp29 Y0, mk21 Y0, mn21 Y0, y2, show q < 2900 by omega, show p < 2900 by omega, show ¬ (0 : Nat) < 0 by omega, show -(Int32.ofNat 2) < Int32.ofNat 0 by decide, i_add, i_mul, i_sub, i_addn, i_lt, i_eq, i_idx, i_vp, true_and, and_true, false_and, and_false, if_true, if_false, Nat.reduceAdd, Nat.reduceMul, Nat.reduceSub, Nat.reduceEqDiff, Option.some.injEq, exists_eq_left', true_or, or_true, false_or, or_false, not_true_eq_false, not_false_eq_true, eq_self, and_self, Nat.reduceLeDiff, decide_true, decide_false, ne_eq, Nat.left_eq_add, Nat.add_eq_left, Nat.add_left_cancel_iff, Nat.add_zero]
        exact fin _
      · rw [if_neg d1]
        by_cases d2 : w = -(Int32.ofNat 1)
        · rw [if_pos d2]
          subst d2
          simp (disch := omega) only [U143_31, U143_32, U143_35, U143_38, U143_39, U143_40, U143_41, U143_44, U143_45, U143_46, U143_47, U143_48, U143_51, U143_52, U143_54, U143_57, U143_58, U143_61, U143_62, U143_63, U143_66, U143_67, U143_70, U143_71, U143_72, U143_73, U143_74, U143_75, U143_76, U143_77, U143_80, U143_81, U143_82, U143_85, U143_88, U143_89, U143_92, U143_93, U143_96, U143_97, U143_100, U143_103, U143_104, U143_107, U143_108, U143_111, U143_113, U143_114, U143_115, U143_116, U143_117, U143_118, Y0.1, e0, mp33 Y0, mk25 Y0, mn25 Y0, e25, mp28 Y0, mk20 Y0, mn20 Y0, y1, d1, show q < 2900 by omega, show p < 2900 by omega, show ¬ (0 : Nat) < 0 by omega, show -(Int32.ofNat 1) < Int32.ofNat 0 by decide, i_add, i_mul, i_sub, i_addn, i_lt, i_eq, i_idx, i_vp, true_and, and_true, false_and, and_false, if_true, if_false, Nat.reduceAdd, Nat.reduceMul, Nat.reduceSub, Nat.reduceEqDiff, Option.some.injEq, exists_eq_left', true_or, or_true, false_or, or_false, not_true_eq_false, not_false_eq_true, eq_self, and_self, Nat.reduceLeDiff, decide_true, decide_false, ne_eq, Nat.left_eq_add, Nat.add_eq_left, Nat.add_left_cancel_iff, Nat.add_zero]
          exact fin _
        · rw [if_neg d2]
          obtain ⟨j, hj, rfl⟩ := i_nat (neg_cases (fun z => c2 (Or.inl z)) d1 d2)
          rw [i_idx hj]
          by_cases d3 : j < y.2.2.2.length
          · rw [if_pos d3]
            obtain ⟨z1, -⟩ := y5 j _ (List.getElem?_eq_getElem d3)
            have en : numA y.2.2.2 j = nv y.2.2.2[j] := by unfold numA; rw [List.getElem?_eq_getElem d3]
            rw [en]
            simp (disch := omega) only [U143_31, U143_32, U143_35, U143_38, U143_39, U143_40, U143_41, U143_44, U143_45, U143_46, U143_47, U143_48, U143_51, U143_52, U143_54, U143_57, U143_58, U143_61, U143_62, U143_63, U143_66, U143_67, U143_70, U143_71, U143_72, U143_73, U143_74, U143_75, U143_76, U143_77, U143_80, U143_81, U143_82, U143_85, U143_88, U143_89, U143_92, U143_93, U143_96, U143_97, U143_100, U143_103, U143_104, U143_107, U143_108, U143_111, U143_113, U143_114, U143_115, U143_116, U143_117, U143_118, z_kd_sI, z_ln_sI, z_gI_sI, z_gJ_sI, z_gP_sI, z_nx_sI, z_rc_sI, z_rs_sI, z_em_sI, z_mi_sI, z_kd_sJ, z_ln_sJ, z_gI_sJ, z_gJ_sJ, z_gP_sJ, z_nx_sJ, z_rc_sJ, z_rs_sJ, z_em_sJ, z_mi_sJ, z_kd_sP, z_ln_sP, z_gI_sP, z_gJ_sP, z_gP_sP, z_nx_sP, z_rc_sP, z_rs_sP, z_em_sP, z_mi_sP, z_kd_nw, z_ln_nw, z_gI_nw, z_gJ_nw, z_gP_nw, z_nx_nw, z_rc_nw, z_rs_nw, z_em_nw, z_mi_nw, z_kd_cI, z_ln_cI, z_gI_cI, z_gJ_cI, z_gP_cI, z_nx_cI, z_rc_cI, z_rs_cI, z_em_cI, z_mi_cI, z_kd_cP, z_ln_cP, z_gI_cP, z_gJ_cP, z_gP_cP, z_nx_cP, z_rc_cP, z_rs_cP, z_em_cP, z_mi_cP, z_kd_wI, z_ln_wI, z_gI_wI, z_gJ_wI, z_gP_wI, z_nx_wI, z_rc_wI, z_rs_wI, z_em_wI, z_mi_wI, z_kd_wJ, z_ln_wJ, z_gI_wJ, z_gJ_wJ, z_gP_wJ, z_nx_wJ, z_rc_wJ, z_rs_wJ, z_em_wJ, z_mi_wJ, Y0.1, e0, mp33 Y0, mk25 Y0, mn25 Y0, e25, mp28 Y0, mk20 Y0, mn20 Y0, y1, M_slotCount Y0 Y2 hts, V198, ← fle, d3, mp31 Y0, mk23 Y0, mn23 Y0, z1, show 6 * p + j < 17400 by omega, show ¬ j < 0 by omega, show q < 2900 by omega, show p < 2900 by omega, show ¬ (0 : Nat) < 0 by omega, i_add, i_mul, i_sub, i_addn, i_lt, i_eq, i_idx, i_vp, true_and, and_true, false_and, and_false, if_true, if_false, Nat.reduceAdd, Nat.reduceMul, Nat.reduceSub, Nat.reduceEqDiff, Option.some.injEq, exists_eq_left', true_or, or_true, false_or, or_false, not_true_eq_false, not_false_eq_true, eq_self, and_self, Nat.reduceLeDiff, decide_true, decide_false, ne_eq, Nat.left_eq_add, Nat.add_eq_left, Nat.add_left_cancel_iff, Nat.add_zero]
            exact PM.tr f0 Y.pm
          · rw [if_neg d3]
            simp (disch := omega) only [U143_31, U143_32, U143_35, U143_38, U143_39, U143_40, U143_41, U143_44, U143_45, U143_46, U143_47, U143_48, U143_51, U143_52, U143_54, U143_57, U143_58, U143_61, U143_62, U143_63, U143_66, U143_67, U143_70, U143_71, U143_72, U143_73, U143_74, U143_75, U143_76, U143_77, U143_80, U143_81, U143_82, U143_85, U143_88, U143_89, U143_92, U143_93, U143_96, U143_97, U143_100, U143_103, U143_104, U143_107, U143_108, U143_111, U143_113, U143_114, U143_115, U143_116, U143_117, U143_118, z_kd_sI, z_ln_sI, z_gI_sI, z_gJ_sI, z_gP_sI, z_nx_sI, z_rc_sI, z_rs_sI, z_em_sI, z_mi_sI, z_kd_sJ, z_ln_sJ, z_gI_sJ, z_gJ_sJ, z_gP_sJ, z_nx_sJ, z_rc_sJ, z_rs_sJ, z_em_sJ, z_mi_sJ, z_kd_sP, z_ln_sP, z_gI_sP, z_gJ_sP, z_gP_sP, z_nx_sP, z_rc_sP, z_rs_sP, z_em_sP, z_mi_sP, z_kd_nw, z_ln_nw, z_gI_nw, z_gJ_nw, z_gP_nw, z_nx_nw, z_rc_nw, z_rs_nw, z_em_nw, z_mi_nw, z_kd_cI, z_ln_cI, z_gI_cI, z_gJ_cI, z_gP_cI, z_nx_cI, z_rc_cI, z_rs_cI, z_em_cI, z_mi_cI, z_kd_cP, z_ln_cP, z_gI_cP, z_gJ_cP, z_gP_cP, z_nx_cP, z_rc_cP, z_rs_cP, z_em_cP, z_mi_cP, z_kd_wI, z_ln_wI, z_gI_wI, z_gJ_wI, z_gP_wI, z_nx_wI, z_rc_wI, z_rs_wI, z_em_wI, z_mi_wI, z_kd_wJ, z_ln_wJ, z_gI_wJ, z_gJ_wJ, z_gP_wJ, z_nx_wJ, z_rc_wJ, z_rs_wJ, z_em_wJ, z_mi_wJ, Y0.1, e0, mp33 Y0, mk25 Y0, mn25 Y0, e25, mp28 Y0, mk20 Y0, mn20 Y0, y1, M_slotCount Y0 Y2 hts, V198, ← fle, d3, show (0 : Nat) < 1 by omega, show ¬ j < 0 by omega, show q < 2900 by omega, show p < 2900 by omega, show ¬ (0 : Nat) < 0 by omega, i_add, i_mul, i_sub, i_addn, i_lt, i_eq, i_idx, i_vp, true_and, and_true, false_and, and_false, if_true, if_false, Nat.reduceAdd, Nat.reduceMul, Nat.reduceSub, Nat.reduceEqDiff, Option.some.injEq, exists_eq_left', true_or, or_true, false_or, or_false, not_true_eq_false, not_false_eq_true, eq_self, and_self, Nat.reduceLeDiff, decide_true, decide_false, ne_eq, Nat.left_eq_add, Nat.add_eq_left, Nat.add_left_cancel_iff, Nat.add_zero]
            exact PM.tr f0 Y.pm
  · rw [if_neg c1]
    have b1 : (@bz (liI k es) (liD k es)) = Int32.ofNat 0 := by rw [@bz_0 _ (liD k es)]; exact c1
    simp (disch := omega) only [U143_0, U143_1, U143_2, U143_3, U143_6, U143_9, U143_10, U143_13, U143_14, U143_16, U143_17, U143_20, U143_23, U143_24, U143_27, U143_28, U143_31, U143_32, U143_35, U143_38, U143_39, U143_40, U143_41, U143_44, U143_45, U143_46, U143_47, U143_48, U143_51, U143_52, U143_54, U143_57, U143_58, U143_61, U143_62, U143_63, U143_66, U143_67, U143_70, U143_71, U143_72, U143_73, U143_74, U143_75, U143_76, U143_77, U143_80, U143_81, U143_82, U143_85, U143_88, U143_89, U143_92, U143_93, U143_96, U143_97, U143_100, U143_103, U143_104, U143_107, U143_108, U143_111, U143_113, U143_114, U143_115, U143_116, U143_117, U143_118, z_kd_sI, z_ln_sI, z_gI_sI, z_gJ_sI, z_gP_sI, z_nx_sI, z_rc_sI, z_rs_sI, z_em_sI, z_mi_sI, z_kd_sJ, z_ln_sJ, z_gI_sJ, z_gJ_sJ, z_gP_sJ, z_nx_sJ, z_rc_sJ, z_rs_sJ, z_em_sJ, z_mi_sJ, z_kd_sP, z_ln_sP, z_gI_sP, z_gJ_sP, z_gP_sP, z_nx_sP, z_rc_sP, z_rs_sP, z_em_sP, z_mi_sP, z_kd_nw, z_ln_nw, z_gI_nw, z_gJ_nw, z_gP_nw, z_nx_nw, z_rc_nw, z_rs_nw, z_em_nw, z_mi_nw, z_kd_cI, z_ln_cI, z_gI_cI, z_gJ_cI, z_gP_cI, z_nx_cI, z_rc_cI, z_rs_cI, z_em_cI, z_mi_cI, z_kd_cP, z_ln_cP, z_gI_cP, z_gJ_cP, z_gP_cP, z_nx_cP, z_rc_cP, z_rs_cP, z_em_cP, z_mi_cP, z_kd_wI, z_ln_wI, z_gI_wI, z_gJ_wI, z_gP_wI, z_nx_wI, z_rc_wI, z_rs_wI, z_em_wI, z_mi_wI, z_kd_wJ, z_ln_wJ, z_gI_wJ, z_gJ_wJ, z_gP_wJ, z_nx_wJ, z_rc_wJ, z_rs_wJ, z_em_wJ, z_mi_wJ, X0.1, M_isLine X0 X7, V165, b1, show (0 : Nat) < 1 by omega, i_add, i_mul, i_sub, i_addn, i_lt, i_eq, i_idx, i_vp, true_and, and_true, false_and, and_false, if_true, if_false, Nat.reduceAdd, Nat.reduceMul, Nat.reduceSub, Nat.reduceEqDiff, Option.some.injEq, exists_eq_left', true_or, or_true, false_or, or_false, not_true_eq_false, not_false_eq_true, eq_self, and_self, Nat.reduceLeDiff, decide_true, decide_false, ne_eq, Nat.left_eq_add, Nat.add_eq_left, Nat.add_left_cancel_iff, Nat.add_zero]
    exact X'.pm
end
