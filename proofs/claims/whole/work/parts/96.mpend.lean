/-! ===== the model: flush, addPending ===== -/
section
variable {h h' : MH_} {m : Nat} {S : Nat → Nat → Prop} {tx : List Nat} {si : List (List Tok)} {nm : Nat → List Nat} {ar : List Arg} {wr : Nat → Wr} {fl : List Nat} {du : Nat} {cu : Bool} {es : List Ev} {br : Nat} {tm : List Tm}
/-- a writer's waiting events are as the log leaves them -/
def WB (si : List (List Tok)) (q : Wr) : Prop := WkOk si q.1 ∧ mono q.1 ∧ (∀ e, e < q.1.length → (pkP (q.1.take e)).1.length ≤ 238) ∧ (pkP q.1).1.length ≤ 238 ∧ ∀ b ∈ (pkP q.1).1, b < 256
theorem MD.mf (X : MD h m fl du cu) : Mf h m fl := ⟨X.1, X.2.2.1, X.2.2.2.1⟩
theorem wrS_same {wr : Nat → Wr} {w : Nat} : wrS wr w (wr w) = wr := by
  funext q
  unfold wrS
  split
  · rename_i e; rw [e]
  · rfl
theorem bkW_len {w : Nat} {q : Wr} (h : (pkP q.1).1.length ≤ 238) : (bkW w q).length = 256 := by
  unfold bkW blk
  rw [List.length_append, bdy_len h, bigB_len]
theorem bz_of {b : Bool} : (b = true → bz (b = true) = Int32.ofNat 1) ∧ (¬ b = true → bz (b = true) = Int32.ofNat 0) := ⟨fun z => (bz_t z).symm, fun z => (bz_f z).symm⟩
theorem M_flush {w : Int32} (X : MM h m tx si nm ar wr fl du cu es br tm) (ok : ∀ w, w < 4 → WB si (wr w)) (hd : ¬ cu = true → fl.length % 256 = 0) : Wp 158 0 [.ref m, .int w] [] h (@ite _ (wrI w) (wrD w) (if cu = true then PM h m (.int (Int32.ofNat 0)) 2 tx si nm ar wr fl du cu es br tm else if ¬ (wr w.toNatClampNeg).1.length = 0 ∧ 6144 < fl.length + 256 then PM h m (.int (Int32.ofNat 0)) 3 tx si nm ar wr fl du cu es br tm else PM h m (.int (Int32.ofNat ((flF fl w.toNatClampNeg (wr w.toNatClampNeg)).length / 256))) 0 tx si nm ar (wrS wr w.toNatClampNeg (wrF (wr w.toNatClampNeg))) (flF fl w.toNatClampNeg (wr w.toNatClampNeg)) (flF fl w.toNatClampNeg (wr w.toNatClampNeg)).length cu es br tm) (PM h m (.int (Int32.ofNat 0)) 1 tx si nm ar wr fl du cu es br tm)) := by
  have X' := X
  obtain ⟨X0, X1, X2, X3, X4, X5, X6, X7, X8⟩ := X
  have hl := X6.2.1
  by_cases c1 : wrI w
  · rw [if_pos c1]
    obtain ⟨q, hq, rfl⟩ := i_nat c1.1
    have ei := i_idx hq
    have hq4 : q < 4 := by have := c1.2; rw [ei] at this; exact this
    rw [ei]
    obtain ⟨w1, w2, w3, w4, w5⟩ := X5 q hq4
    obtain ⟨o1, o2, o3, o4, o5⟩ := ok q hq4
    have wi : ∀ {Q : Rs_ → MH_ → Prop}, Wp 207 0 [.int (Int32.ofNat q), .int (Int32.ofNat 0), .int (Int32.ofNat 3)] [] h Q ↔ Q (.inl (.int (Int32.ofNat 1))) h := by
      intro Q
      rw [M_within, ← bz_t ⟨c1.1, by rw [i_lt (by omega) (by omega)]; omega⟩]
    by_cases c2 : cu = true
    · rw [if_pos c2]
      have e25 : gI_ h m 25 = Int32.ofNat 1 := by rw [X6.2.2.2.2.2.2]; exact bz_of.1 c2
      simp (disch := omega) only [U158_0, U158_1, U158_2, U158_3, U158_4, U158_7, U158_10, U158_11, U158_14, U158_15, U158_18, U158_21, U158_22, U158_25, U158_26, U158_29, U158_30, U158_31, U158_34, U158_35, U158_38, U158_41, U158_44, U158_45, U158_48, U158_49, U158_52, U158_53, U158_56, U158_59, U158_60, U158_61, U158_62, U158_65, U158_66, U158_67, U158_70, U158_71, U158_72, U158_75, U158_76, U158_77, U158_80, U158_83, U158_84, U158_87, U158_90, U158_91, z_kd_sI, z_ln_sI, z_gI_sI, z_gJ_sI, z_gP_sI, z_nx_sI, z_rc_sI, z_rs_sI, z_em_sI, z_mi_sI, z_kd_sJ, z_ln_sJ, z_gI_sJ, z_gJ_sJ, z_gP_sJ, z_nx_sJ, z_rc_sJ, z_rs_sJ, z_em_sJ, z_mi_sJ, z_kd_sP, z_ln_sP, z_gI_sP, z_gJ_sP, z_gP_sP, z_nx_sP, z_rc_sP, z_rs_sP, z_em_sP, z_mi_sP, z_kd_nw, z_ln_nw, z_gI_nw, z_gJ_nw, z_gP_nw, z_nx_nw, z_rc_nw, z_rs_nw, z_em_nw, z_mi_nw, z_kd_cI, z_ln_cI, z_gI_cI, z_gJ_cI, z_gP_cI, z_nx_cI, z_rc_cI, z_rs_cI, z_em_cI, z_mi_cI, z_kd_cP, z_ln_cP, z_gI_cP, z_gJ_cP, z_gP_cP, z_nx_cP, z_rc_cP, z_rs_cP, z_em_cP, z_mi_cP, z_kd_wI, z_ln_wI, z_gI_wI, z_gJ_wI, z_gP_wI, z_nx_wI, z_rc_wI, z_rs_wI, z_em_wI, z_mi_wI, z_kd_wJ, z_ln_wJ, z_gI_wJ, z_gJ_wJ, z_gP_wJ, z_nx_wJ, z_rc_wJ, z_rs_wJ, z_em_wJ, z_mi_wJ, X0.1, wi, V207, e25, show ¬ (1 : Nat) = 0 by omega, show (0 : Nat) < 2 by omega, i_add, i_mul, i_sub, i_addn, i_lt, i_eq, i_idx, i_vp, true_and, and_true, false_and, and_false, if_true, if_false, Nat.reduceAdd, Nat.reduceMul, Nat.reduceSub, Nat.reduceEqDiff, Option.some.injEq, exists_eq_left', true_or, or_true, false_or, or_false, not_true_eq_false, not_false_eq_true, eq_self, and_self, Nat.reduceLeDiff, decide_true, decide_false, ne_eq, Nat.left_eq_add, Nat.add_eq_left, Nat.add_left_cancel_iff, Nat.add_zero]
      exact X'.pm
    · rw [if_neg c2]
      have hd := hd c2
      have e25 : gI_ h m 25 = Int32.ofNat 0 := by rw [X6.2.2.2.2.2.2]; exact bz_of.2 c2
      by_cases c3 : (wr q).1.length = 0
      · rw [if_neg (fun z => z.1 c3)]
        have e1 : flF fl q (wr q) = fl := if_pos c3
        have e2 : wrF (wr q) = wr q := if_pos c3
        rw [e1, e2, wrS_same]
        rw [c3] at w1
        have hdv : Int32.ofNat fl.length / Int32.ofNat 256 = Int32.ofNat (fl.length / 256) := (Int32.ofNat_div (by omega) (by omega)).symm
        simp (disch := omega) only [U158_0, U158_1, U158_2, U158_3, U158_4, U158_7, U158_10, U158_11, U158_14, U158_15, U158_18, U158_21, U158_22, U158_25, U158_26, U158_29, U158_30, U158_31, U158_34, U158_35, U158_38, U158_41, U158_44, U158_45, U158_48, U158_49, U158_52, U158_53, U158_56, U158_59, U158_60, U158_61, U158_62, U158_65, U158_66, U158_67, U158_70, U158_71, U158_72, U158_75, U158_76, U158_77, U158_80, U158_83, U158_84, U158_87, U158_90, U158_91, z_kd_sI, z_ln_sI, z_gI_sI, z_gJ_sI, z_gP_sI, z_nx_sI, z_rc_sI, z_rs_sI, z_em_sI, z_mi_sI, z_kd_sJ, z_ln_sJ, z_gI_sJ, z_gJ_sJ, z_gP_sJ, z_nx_sJ, z_rc_sJ, z_rs_sJ, z_em_sJ, z_mi_sJ, z_kd_sP, z_ln_sP, z_gI_sP, z_gJ_sP, z_gP_sP, z_nx_sP, z_rc_sP, z_rs_sP, z_em_sP, z_mi_sP, z_kd_nw, z_ln_nw, z_gI_nw, z_gJ_nw, z_gP_nw, z_nx_nw, z_rc_nw, z_rs_nw, z_em_nw, z_mi_nw, z_kd_cI, z_ln_cI, z_gI_cI, z_gJ_cI, z_gP_cI, z_nx_cI, z_rc_cI, z_rs_cI, z_em_cI, z_mi_cI, z_kd_cP, z_ln_cP, z_gI_cP, z_gJ_cP, z_gP_cP, z_nx_cP, z_rc_cP, z_rs_cP, z_em_cP, z_mi_cP, z_kd_wI, z_ln_wI, z_gI_wI, z_gJ_wI, z_gP_wI, z_nx_wI, z_rc_wI, z_rs_wI, z_em_wI, z_mi_wI, z_kd_wJ, z_ln_wJ, z_gI_wJ, z_gJ_wJ, z_gP_wJ, z_nx_wJ, z_rc_wJ, z_rs_wJ, z_em_wJ, z_mi_wJ, X0.1, wi, V207, e25, mp12 X0, mk9 X0, mn9 X0, hq4, w1, X6.1, hdv, show ¬ (1 : Nat) = 0 by omega, show ¬ (0 : Nat) < 0 by omega, show ¬ (256 : Nat) = 0 by omega, Nat.reduceEqDiff, i_add, i_mul, i_sub, i_addn, i_lt, i_eq, i_idx, i_vp, true_and, and_true, false_and, and_false, if_true, if_false, Nat.reduceAdd, Nat.reduceMul, Nat.reduceSub, Nat.reduceEqDiff, Option.some.injEq, exists_eq_left', true_or, or_true, false_or, or_false, not_true_eq_false, not_false_eq_true, eq_self, and_self, Nat.reduceLeDiff, decide_true, decide_false, ne_eq, Nat.left_eq_add, Nat.add_eq_left, Nat.add_left_cancel_iff, Nat.add_zero]
        have f : Fz (fun a i => a = m ∧ (i = 0 ∨ i = 24)) h (sI_ (sI_ h m 0 (Int32.ofNat 0)) m 24 (Int32.ofNat fl.length)) := (Fz.rfl'.sI ⟨rfl, Or.inl rfl⟩).sI ⟨rfl, Or.inr rfl⟩
        refine ⟨rfl, by rw [z_gI_sI, if_neg (by omega), z_gI_sI, if_pos ⟨rfl, rfl⟩], f.mono (fun a i z => by omega), X0.fz f, X1.fz f (by intro a i z w; omega), X2.fz f (by intro a i z w; omega), X3.fz f (by intro a i z w; omega), X4.fz f (by intro a i z w; omega), X5.fz f (by intro a i z w; omega), ⟨by rw [f.gI (by omega)]; exact X6.1, hl, fun i hi => by rw [f.gI (by omega)]; exact X6.2.2.1 i hi, X6.2.2.2.1, by rw [z_gI_sI, if_pos ⟨rfl, rfl⟩], Nat.le_refl _, by rw [f.gI (by omega)]; exact X6.2.2.2.2.2.2⟩, X7.fz f (by intro a i z w; omega), X8.fz f (by intro a i z w; omega)⟩
      · have hne : (wr q).1 ≠ [] := fun z => c3 (by rw [z]; rfl)
        have e1 : flF fl q (wr q) = fl ++ bkW q (wr q) := if_neg c3
        have e2 : wrF (wr q) = ([], (wr q).2.1, (wr q).2.2 + 1) := if_neg c3
        rw [e1, e2]
        by_cases c4 : 6144 < fl.length + 256
        · rw [if_pos ⟨c3, c4⟩]
          have c5 : fl.length = 6144 := by omega
          have X61 := X6.1
          rw [c5] at X61
          simp (disch := omega) only [U158_0, U158_1, U158_2, U158_3, U158_4, U158_7, U158_10, U158_11, U158_14, U158_15, U158_18, U158_21, U158_22, U158_25, U158_26, U158_29, U158_30, U158_31, U158_34, U158_35, U158_38, U158_41, U158_44, U158_45, U158_48, U158_49, U158_52, U158_53, U158_56, U158_59, U158_60, U158_61, U158_62, U158_65, U158_66, U158_67, U158_70, U158_71, U158_72, U158_75, U158_76, U158_77, U158_80, U158_83, U158_84, U158_87, U158_90, U158_91, z_kd_sI, z_ln_sI, z_gI_sI, z_gJ_sI, z_gP_sI, z_nx_sI, z_rc_sI, z_rs_sI, z_em_sI, z_mi_sI, z_kd_sJ, z_ln_sJ, z_gI_sJ, z_gJ_sJ, z_gP_sJ, z_nx_sJ, z_rc_sJ, z_rs_sJ, z_em_sJ, z_mi_sJ, z_kd_sP, z_ln_sP, z_gI_sP, z_gJ_sP, z_gP_sP, z_nx_sP, z_rc_sP, z_rs_sP, z_em_sP, z_mi_sP, z_kd_nw, z_ln_nw, z_gI_nw, z_gJ_nw, z_gP_nw, z_nx_nw, z_rc_nw, z_rs_nw, z_em_nw, z_mi_nw, z_kd_cI, z_ln_cI, z_gI_cI, z_gJ_cI, z_gP_cI, z_nx_cI, z_rc_cI, z_rs_cI, z_em_cI, z_mi_cI, z_kd_cP, z_ln_cP, z_gI_cP, z_gJ_cP, z_gP_cP, z_nx_cP, z_rc_cP, z_rs_cP, z_em_cP, z_mi_cP, z_kd_wI, z_ln_wI, z_gI_wI, z_gJ_wI, z_gP_wI, z_nx_wI, z_rc_wI, z_rs_wI, z_em_wI, z_mi_wI, z_kd_wJ, z_ln_wJ, z_gI_wJ, z_gJ_wJ, z_gP_wJ, z_nx_wJ, z_rc_wJ, z_rs_wJ, z_em_wJ, z_mi_wJ, X0.1, wi, V207, e25, mp12 X0, mk9 X0, mn9 X0, hq4, w1, X61, show ¬ (1 : Nat) = 0 by omega, show 0 < (wr q).1.length by omega, show (0 : Nat) < 3 by omega, i_add, i_mul, i_sub, i_addn, i_lt, i_eq, i_idx, i_vp, true_and, and_true, false_and, and_false, if_true, if_false, Nat.reduceAdd, Nat.reduceMul, Nat.reduceSub, Nat.reduceEqDiff, Option.some.injEq, exists_eq_left', true_or, or_true, false_or, or_false, not_true_eq_false, not_false_eq_true, eq_self, and_self, Nat.reduceLeDiff, decide_true, decide_false, ne_eq, Nat.left_eq_add, Nat.add_eq_left, Nat.add_left_cancel_iff, Nat.add_zero]
          exact X'.pm
        · rw [if_neg (fun z => c4 z.2)]
          have c5 : ¬ fl.length = 6144 := by omega
          obtain ⟨X't, tk, ft⟩ := X'.th (k := 0)
          obtain ⟨Y0, Y1, Y2, Y3, Y4, Y5, Y6, Y7, Y8⟩ := X't
          simp (disch := omega) only [U158_0, U158_1, U158_2, U158_3, U158_4, U158_7, U158_10, U158_11, U158_14, U158_15, U158_18, U158_21, U158_22, U158_25, U158_26, U158_29, U158_30, U158_31, U158_34, U158_35, U158_38, U158_41, U158_44, U158_45, U158_48, U158_49, U158_52, U158_53, U158_56, U158_59, U158_60, U158_61, U158_62, U158_65, U158_66, U158_67, U158_70, U158_71, U158_72, z_kd_sI, z_ln_sI, z_gI_sI, z_gJ_sI, z_gP_sI, z_nx_sI, z_rc_sI, z_rs_sI, z_em_sI, z_mi_sI, z_kd_sJ, z_ln_sJ, z_gI_sJ, z_gJ_sJ, z_gP_sJ, z_nx_sJ, z_rc_sJ, z_rs_sJ, z_em_sJ, z_mi_sJ, z_kd_sP, z_ln_sP, z_gI_sP, z_gJ_sP, z_gP_sP, z_nx_sP, z_rc_sP, z_rs_sP, z_em_sP, z_mi_sP, z_kd_nw, z_ln_nw, z_gI_nw, z_gJ_nw, z_gP_nw, z_nx_nw, z_rc_nw, z_rs_nw, z_em_nw, z_mi_nw, z_kd_cI, z_ln_cI, z_gI_cI, z_gJ_cI, z_gP_cI, z_nx_cI, z_rc_cI, z_rs_cI, z_em_cI, z_mi_cI, z_kd_cP, z_ln_cP, z_gI_cP, z_gJ_cP, z_gP_cP, z_nx_cP, z_rc_cP, z_rs_cP, z_em_cP, z_mi_cP, z_kd_wI, z_ln_wI, z_gI_wI, z_gJ_wI, z_gP_wI, z_nx_wI, z_rc_wI, z_rs_wI, z_em_wI, z_mi_wI, z_kd_wJ, z_ln_wJ, z_gI_wJ, z_gJ_wJ, z_gP_wJ, z_nx_wJ, z_rc_wJ, z_rs_wJ, z_em_wJ, z_mi_wJ, X0.1, wi, V207, e25, mp12 X0, mk9 X0, mn9 X0, hq4, w1, X6.1, c5, show ¬ (1 : Nat) = 0 by omega, show 0 < (wr q).1.length by omega, show ¬ (0 : Nat) < 0 by omega, Nat.reduceEqDiff, i_add, i_mul, i_sub, i_addn, i_lt, i_eq, i_idx, i_vp, true_and, and_true, false_and, and_false, if_true, if_false, Nat.reduceAdd, Nat.reduceMul, Nat.reduceSub, Nat.reduceEqDiff, Option.some.injEq, exists_eq_left', true_or, or_true, false_or, or_false, not_true_eq_false, not_false_eq_true, eq_self, and_self, Nat.reduceLeDiff, decide_true, decide_false, ne_eq, Nat.left_eq_add, Nat.add_eq_left, Nat.add_left_cancel_iff, Nat.add_zero]
          refine Wp_use (M_write Y0 Y2 Y5 Y6.mf hq4 o1 o2 o3 o4 hne o5 (by omega)) ?_
          rintro _ h1 ⟨rfl, K1, n9, n16, f1⟩
          have Z0 := Y0.fz f1
          have bl := bkW_len (w := q) o4
          have len : (fl ++ bkW q (wr q)).length = fl.length + 256 := by rw [List.length_append, bl]
          have K11 := K1.1
          have hdv : Int32.ofNat (fl ++ bkW q (wr q)).length / Int32.ofNat 256 = Int32.ofNat ((fl ++ bkW q (wr q)).length / 256) := (Int32.ofNat_div (by omega) (by omega)).symm
          simp (disch := omega) only [V208, U158_75, U158_76, U158_77, U158_80, U158_83, U158_84, U158_87, U158_90, U158_91, z_kd_sI, z_ln_sI, z_gI_sI, z_gJ_sI, z_gP_sI, z_nx_sI, z_rc_sI, z_rs_sI, z_em_sI, z_mi_sI, z_kd_sJ, z_ln_sJ, z_gI_sJ, z_gJ_sJ, z_gP_sJ, z_nx_sJ, z_rc_sJ, z_rs_sJ, z_em_sJ, z_mi_sJ, z_kd_sP, z_ln_sP, z_gI_sP, z_gJ_sP, z_gP_sP, z_nx_sP, z_rc_sP, z_rs_sP, z_em_sP, z_mi_sP, z_kd_nw, z_ln_nw, z_gI_nw, z_gJ_nw, z_gP_nw, z_nx_nw, z_rc_nw, z_rs_nw, z_em_nw, z_mi_nw, z_kd_cI, z_ln_cI, z_gI_cI, z_gJ_cI, z_gP_cI, z_nx_cI, z_rc_cI, z_rs_cI, z_em_cI, z_mi_cI, z_kd_cP, z_ln_cP, z_gI_cP, z_gJ_cP, z_gP_cP, z_nx_cP, z_rc_cP, z_rs_cP, z_em_cP, z_mi_cP, z_kd_wI, z_ln_wI, z_gI_wI, z_gJ_wI, z_gP_wI, z_nx_wI, z_rc_wI, z_rs_wI, z_em_wI, z_mi_wI, z_kd_wJ, z_ln_wJ, z_gI_wJ, z_gJ_wJ, z_gP_wJ, z_nx_wJ, z_rc_wJ, z_rs_wJ, z_em_wJ, z_mi_wJ, Z0.1, K11, hdv, show ¬ (256 : Nat) = 0 by omega, Nat.reduceEqDiff, i_add, i_mul, i_sub, i_addn, i_lt, i_eq, i_idx, i_vp, true_and, and_true, false_and, and_false, if_true, if_false, Nat.reduceAdd, Nat.reduceMul, Nat.reduceSub, Nat.reduceEqDiff, Option.some.injEq, exists_eq_left', true_or, or_true, false_or, or_false, not_true_eq_false, not_false_eq_true, eq_self, and_self, Nat.reduceLeDiff, decide_true, decide_false, ne_eq, Nat.left_eq_add, Nat.add_eq_left, Nat.add_left_cancel_iff, Nat.add_zero]
          have f2 : Fz (fun a i => a = m ∧ i = 24) h1 (sI_ h1 m 24 (Int32.ofNat (fl ++ bkW q (wr q)).length)) := Fz.rfl'.sI ⟨rfl, rfl⟩
          have f1' := f1.mono (T := fun a i => (a = m ∧ (i = 20 ∨ i = 22)) ∨ a = m + 17 ∨ a = m + 18 ∨ ((a = m + 9 ∨ a = m + 16) ∧ i = q)) (fun a i z => by unfold SK SG at z; omega)
          have W1 : MW h1 m (wrS wr q ([], (wr q).2.1, (wr q).2.2 + 1)) := Y5.nil (v := ([], (wr q).2.1, (wr q).2.2 + 1)) f1' (fun a i z => by omega) rfl n9 (by rw [f1'.gJ (by omega), ft.gJ (by omega)]; exact w3) n16
          refine ⟨rfl, ?_, ?_, Z0.fz f2, (Y1.fz f1' (by intro a i z w; omega)).fz f2 (by intro a i z w; omega), (Y2.fz f1' (by intro a i z w; omega)).fz f2 (by intro a i z w; omega), (Y3.fz f1' (by intro a i z w; omega)).fz f2 (by intro a i z w; omega), (Y4.fz f1' (by intro a i z w; omega)).fz f2 (by intro a i z w; omega), W1.fz f2 (by intro a i z w; omega), ⟨by rw [f2.gI (by omega)]; exact K11, by omega, fun i hi => by rw [f2.gI (by omega)]; exact K1.2.1 i hi, K1.2.2, by rw [z_gI_sI, if_pos ⟨rfl, rfl⟩], Nat.le_refl _, by rw [f2.gI (by omega), f1'.gI (by omega)]; exact Y6.2.2.2.2.2.2⟩, (Y7.fz f1' (by intro a i z w; omega)).fz f2 (by intro a i z w; omega), (Y8.fz f1' (by intro a i z w; omega)).fz f2 (by intro a i z w; omega)⟩
          · rw [f2.gI (by omega), f1'.gI (by omega), tk]
          · exact ((ft.mono (fun a i z => by omega)).trans (f1'.mono (fun a i z => by omega))).trans (f2.mono (fun a i z => by omega))
  · rw [if_neg c1]
    have wi : ∀ {Q : Rs_ → MH_ → Prop}, Wp 207 0 [.int w, .int (Int32.ofNat 0), .int (Int32.ofNat 3)] [] h Q ↔ Q (.inl (.int (Int32.ofNat 0))) h := by
      intro Q
      rw [M_within, ← bz_f]
      rintro ⟨z1, z2⟩
      apply c1
      obtain ⟨q, hq, rfl⟩ := i_nat z1
      refine ⟨z1, ?_⟩
      rw [i_lt (by omega) (by omega)] at z2
      rw [i_idx hq]
      omega
    simp (disch := omega) only [U158_0, U158_1, U158_2, U158_3, U158_4, U158_7, U158_10, U158_11, U158_14, U158_15, U158_18, U158_21, U158_22, U158_25, U158_26, U158_29, U158_30, U158_31, U158_34, U158_35, U158_38, U158_41, U158_44, U158_45, U158_48, U158_49, U158_52, U158_53, U158_56, U158_59, U158_60, U158_61, U158_62, U158_65, U158_66, U158_67, U158_70, U158_71, U158_72, U158_75, U158_76, U158_77, U158_80, U158_83, U158_84, U158_87, U158_90, U158_91, z_kd_sI, z_ln_sI, z_gI_sI, z_gJ_sI, z_gP_sI, z_nx_sI, z_rc_sI, z_rs_sI, z_em_sI, z_mi_sI, z_kd_sJ, z_ln_sJ, z_gI_sJ, z_gJ_sJ, z_gP_sJ, z_nx_sJ, z_rc_sJ, z_rs_sJ, z_em_sJ, z_mi_sJ, z_kd_sP, z_ln_sP, z_gI_sP, z_gJ_sP, z_gP_sP, z_nx_sP, z_rc_sP, z_rs_sP, z_em_sP, z_mi_sP, z_kd_nw, z_ln_nw, z_gI_nw, z_gJ_nw, z_gP_nw, z_nx_nw, z_rc_nw, z_rs_nw, z_em_nw, z_mi_nw, z_kd_cI, z_ln_cI, z_gI_cI, z_gJ_cI, z_gP_cI, z_nx_cI, z_rc_cI, z_rs_cI, z_em_cI, z_mi_cI, z_kd_cP, z_ln_cP, z_gI_cP, z_gJ_cP, z_gP_cP, z_nx_cP, z_rc_cP, z_rs_cP, z_em_cP, z_mi_cP, z_kd_wI, z_ln_wI, z_gI_wI, z_gJ_wI, z_gP_wI, z_nx_wI, z_rc_wI, z_rs_wI, z_em_wI, z_mi_wI, z_kd_wJ, z_ln_wJ, z_gI_wJ, z_gJ_wJ, z_gP_wJ, z_nx_wJ, z_rc_wJ, z_rs_wJ, z_em_wJ, z_mi_wJ, X0.1, wi, V207, show (0 : Nat) < 1 by omega, i_add, i_mul, i_sub, i_addn, i_lt, i_eq, i_idx, i_vp, true_and, and_true, false_and, and_false, if_true, if_false, Nat.reduceAdd, Nat.reduceMul, Nat.reduceSub, Nat.reduceEqDiff, Option.some.injEq, exists_eq_left', true_or, or_true, false_or, or_false, not_true_eq_false, not_false_eq_true, eq_self, and_self, Nat.reduceLeDiff, decide_true, decide_false, ne_eq, Nat.left_eq_add, Nat.add_eq_left, Nat.add_left_cancel_iff, Nat.add_zero]
    exact X'.pm
end
