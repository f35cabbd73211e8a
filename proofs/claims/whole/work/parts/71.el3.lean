/-! ===== the class: what takes the text ===== -/
section
variable {h h' : MH_} {x B C n w : Nat} {T : Nat → Nat → Prop} {tx : List Nat} {si : List (List Tok)} {nm : Nat → List Nat} {ar : List Arg} {wr : Nat → Wr} {fl : List Nat} {du : Nat} {cu : Bool} {es : List Ev} {br : Nat} {tm : List Tm}
theorem PZ.tr {h1 : MH_} {S : Nat → Nat → Prop} {r : Value ⊕ Nat} (f : Fy S h h1) (hS : ∀ a i, S a i → SX x a i) : ∀ v h', PZ h1 x B C r tx si nm ar wr fl du cu es br tm v h' → PZ h x B C r tx si nm ar wr fl du cu es br tm v h' := by
  rintro v h' ⟨z1, z2, z3⟩
  exact ⟨z1, Fb.trans (f.mono hS).fb z2 (fun _ _ _ z => z), z3⟩
def PK (h : MH_) (x B C : Nat) (tx : List Nat) (si : List (List Tok)) (nm : Nat → List Nat) (ar : List Arg) (wr : Nat → Wr) (fl : List Nat) (du : Nat) (cu : Bool) (es : List Ev) (br : Nat) (tm : List Tm) : Rs_ → MH_ → Prop := fun v h' => ∃ t : Nat, v = .inl (.ref t) ∧ (t = x + 1 ∨ t = x + 3) ∧ Rw h' t 200 tx ∧ Fy (fun a _ => x ≤ a ∧ a < x + 5) h h' ∧ EL h' x B C [] si nm ar wr fl du cu es br tm
theorem EL_takeTyped (E : EL h x B C tx si nm ar wr fl du cu es br tm) : Wp 137 0 [.ref x, .null] [] h (PK h x B C tx si nm ar wr fl du cu es br tm) := by
  have hx := E.nx
  obtain ⟨t1, t2, a1, a2, d, sA, fs, pl, pr, sr, nA, H, Tt, R, P, F, Bq, I, Qq, N, L⟩ := E
  obtain ⟨tz, r1, l2, r2⟩ := Tt
  have H' := H
  obtain ⟨k1, ⟨g0, g1, g2, g3, g4⟩, g5, g6⟩ := H
  have f1 : Fy (fun a i => a = x ∧ (i = 0 ∨ i = 1)) h (sP_ (sP_ h x 0 (some t2)) x 1 (some t1)) := (Fy.rfl'.sP ⟨rfl, Or.inl rfl⟩).sP ⟨rfl, Or.inr rfl⟩
  have r2' : Rw (sP_ (sP_ h x 0 (some t2)) x 1 (some t1)) t2 200 l2 := r2.ag (f1.ag (by omega))
  have r1' : Rw (sP_ (sP_ h x 0 (some t2)) x 1 (some t1)) t1 200 tx := r1.ag (f1.ag (by omega))
  have e0 : gP_ (sP_ (sP_ h x 0 (some t2)) x 1 (some t1)) x 0 = some t2 := by simp only [z_kd_sI, z_ln_sI, z_gI_sI, z_gJ_sI, z_gP_sI, z_nx_sI, z_rc_sI, z_rs_sI, z_em_sI, z_mi_sI, z_kd_sJ, z_ln_sJ, z_gI_sJ, z_gJ_sJ, z_gP_sJ, z_nx_sJ, z_rc_sJ, z_rs_sJ, z_em_sJ, z_mi_sJ, z_kd_sP, z_ln_sP, z_gI_sP, z_gJ_sP, z_gP_sP, z_nx_sP, z_rc_sP, z_rs_sP, z_em_sP, z_mi_sP, z_kd_nw, z_ln_nw, z_gI_nw, z_gJ_nw, z_gP_nw, z_nx_nw, z_rc_nw, z_rs_nw, z_em_nw, z_mi_nw, z_kd_cI, z_ln_cI, z_gI_cI, z_gJ_cI, z_gP_cI, z_nx_cI, z_rc_cI, z_rs_cI, z_em_cI, z_mi_cI, z_kd_cP, z_ln_cP, z_gI_cP, z_gJ_cP, z_gP_cP, z_nx_cP, z_rc_cP, z_rs_cP, z_em_cP, z_mi_cP, z_kd_wI, z_ln_wI, z_gI_wI, z_gJ_wI, z_gP_wI, z_nx_wI, z_rc_wI, z_rs_wI, z_em_wI, z_mi_wI, z_kd_wJ, z_ln_wJ, z_gI_wJ, z_gJ_wJ, z_gP_wJ, z_nx_wJ, z_rc_wJ, z_rs_wJ, z_em_wJ, z_mi_wJ, true_and, and_true, false_and, and_false, if_true, if_false, Nat.reduceAdd, Nat.reduceMul, Nat.reduceSub, Nat.reduceEqDiff, Option.some.injEq, exists_eq_left', true_or, or_true, false_or, or_false, not_true_eq_false, not_false_eq_true, eq_self, and_self, Nat.reduceLeDiff, decide_true, decide_false, ne_eq, Nat.left_eq_add, Nat.add_eq_left, Nat.add_left_cancel_iff, Nat.add_zero]
  have e1 : gP_ (sP_ (sP_ h x 0 (some t2)) x 1 (some t1)) x 1 = some t1 := by simp only [z_kd_sI, z_ln_sI, z_gI_sI, z_gJ_sI, z_gP_sI, z_nx_sI, z_rc_sI, z_rs_sI, z_em_sI, z_mi_sI, z_kd_sJ, z_ln_sJ, z_gI_sJ, z_gJ_sJ, z_gP_sJ, z_nx_sJ, z_rc_sJ, z_rs_sJ, z_em_sJ, z_mi_sJ, z_kd_sP, z_ln_sP, z_gI_sP, z_gJ_sP, z_gP_sP, z_nx_sP, z_rc_sP, z_rs_sP, z_em_sP, z_mi_sP, z_kd_nw, z_ln_nw, z_gI_nw, z_gJ_nw, z_gP_nw, z_nx_nw, z_rc_nw, z_rs_nw, z_em_nw, z_mi_nw, z_kd_cI, z_ln_cI, z_gI_cI, z_gJ_cI, z_gP_cI, z_nx_cI, z_rc_cI, z_rs_cI, z_em_cI, z_mi_cI, z_kd_cP, z_ln_cP, z_gI_cP, z_gJ_cP, z_gP_cP, z_nx_cP, z_rc_cP, z_rs_cP, z_em_cP, z_mi_cP, z_kd_wI, z_ln_wI, z_gI_wI, z_gJ_wI, z_gP_wI, z_nx_wI, z_rc_wI, z_rs_wI, z_em_wI, z_mi_wI, z_kd_wJ, z_ln_wJ, z_gI_wJ, z_gJ_wJ, z_gP_wJ, z_nx_wJ, z_rc_wJ, z_rs_wJ, z_em_wJ, z_mi_wJ, true_and, and_true, false_and, and_false, if_true, if_false, Nat.reduceAdd, Nat.reduceMul, Nat.reduceSub, Nat.reduceEqDiff, Option.some.injEq, exists_eq_left', true_or, or_true, false_or, or_false, not_true_eq_false, not_false_eq_true, eq_self, and_self, Nat.reduceLeDiff, decide_true, decide_false, ne_eq, Nat.left_eq_add, Nat.add_eq_left, Nat.add_left_cancel_iff, Nat.add_zero]
  simp (disch := omega) only [U137_0, U137_1, U137_4, U137_5, U137_6, U137_7, U137_10, U137_13, U137_14, U137_15, z_kd_sP, k1, g0, g1, i_add, i_mul, i_sub, i_addn, i_lt, i_eq, i_idx, i_vp, true_and, and_true, false_and, and_false, if_true, if_false, Nat.reduceAdd, Nat.reduceMul, Nat.reduceSub, Nat.reduceEqDiff, Option.some.injEq, exists_eq_left', true_or, or_true, false_or, or_false, not_true_eq_false, not_false_eq_true, eq_self, and_self, Nat.reduceLeDiff, decide_true, decide_false, ne_eq, Nat.left_eq_add, Nat.add_eq_left, Nat.add_left_cancel_iff, Nat.add_zero]
  simp (disch := omega) only [U137_18, U137_19, U137_22, z_kd_sP, k1, e0, r2.1, i_add, i_mul, i_sub, i_addn, i_lt, i_eq, i_idx, i_vp, true_and, and_true, false_and, and_false, if_true, if_false, Nat.reduceAdd, Nat.reduceMul, Nat.reduceSub, Nat.reduceEqDiff, Option.some.injEq, exists_eq_left', true_or, or_true, false_or, or_false, not_true_eq_false, not_false_eq_true, eq_self, and_self, Nat.reduceLeDiff, decide_true, decide_false, ne_eq, Nat.left_eq_add, Nat.add_eq_left, Nat.add_left_cancel_iff, Nat.add_zero]
  refine Wp_use (Row_begin r2') ?_
  rintro _ h2 ⟨rfl, r3, f2⟩
  simp (disch := omega) only [V86, U137_0, U137_1, U137_4, U137_5, U137_6, U137_7, U137_10, U137_13, U137_14, U137_15, U137_18, U137_19, U137_22, U137_25, U137_26, i_add, i_mul, i_sub, i_addn, i_lt, i_eq, i_idx, i_vp, true_and, and_true, false_and, and_false, if_true, if_false, Nat.reduceAdd, Nat.reduceMul, Nat.reduceSub, Nat.reduceEqDiff, Option.some.injEq, exists_eq_left', true_or, or_true, false_or, or_false, not_true_eq_false, not_false_eq_true, eq_self, and_self, Nat.reduceLeDiff, decide_true, decide_false, ne_eq, Nat.left_eq_add, Nat.add_eq_left, Nat.add_left_cancel_iff, Nat.add_zero]
  have F12 : Fy (fun a _ => x ≤ a ∧ a < x + 5) h h2 := (f1.mono (fun a i z => by omega)).trans (f2.fy.mono (fun a i z => by unfold SR at z; omega))
  have g := F12.fb
  have fa : Fa (fun a _ => x ≤ a ∧ a < x + 5) 0 0 h h2 := F12.fa
  have r1'' : Rw h2 t1 200 tx := r1'.fz f2 (by unfold SR; intro a i z w; omega)
  refine ⟨t1, rfl, by omega, r1'', F12, t2, t1, a1, a2, d, sA, fs, pl, pr, sr, nA, ?_, ⟨by omega, r3, tx, r1''⟩, R.fb g hx (by intro a i z w; omega), P.fb g hx (by intro a i z w; omega), F.fb g hx (by intro a i z w; omega), Bq.fb g hx (by intro a i z w; omega), I.fb g hx (by intro a i z w; omega), Qq.fb g hx (by intro a i z w; omega), N.fb' g hx (by intro a i z w; omega), L.fa fa (by intro a i z w; omega)⟩
  have q : ∀ i, 2 ≤ i → gP_ h2 x i = gP_ h x i := fun i hi => by rw [f2.gP, f1.gP (by omega)]
  have q2 : ∀ i, gP_ h2 (x + 20) i = gP_ h (x + 20) i := fun i => by rw [f2.gP, f1.gP (by omega)]
  refine ⟨by rw [f2.kd, f1.kd, k1], ⟨by rw [f2.gP, e0], by rw [f2.gP, e1], by rw [q 2 (by omega), g2], by rw [q 3 (by omega), g3], by rw [q 4 (by omega), g4]⟩, ?_, ⟨by rw [f2.kd, f1.kd]; exact g6.1, by rw [f2.ln, f1.ln]; exact g6.2.1, fun w hw => by rw [q2]; exact g6.2.2 w hw⟩⟩
  rw [q 5 (by omega), q 6 (by omega), q 7 (by omega), q 8 (by omega), q 9 (by omega), q 10 (by omega), q 11 (by omega), q 12 (by omega)]
  exact g5
theorem EL_arg {n : Int32} (E : EL h x (B + 20) (C + 20000) tx si nm ar wr fl du cu es br tm) : Wp 114 0 [.ref x, .int n] [] h (if ar.length = 6 then PZ h x B C (.inr 20) tx si nm ar wr fl du cu es br tm else PZ h x B C (.inl (.int (Int32.ofNat (ar.length + 1)))) tx si nm (ar ++ [.inl n]) wr fl du cu es br tm) := by
  have E' := E
  have hx := E.nx
  obtain ⟨rm1, rm2⟩ := E.room
  obtain ⟨t1, t2, a1, a2, d, sA, fs, pl, pr, sr, nA, H, Tt, R, P, F, Bq, I, Qq, N, L⟩ := E
  obtain ⟨az, e1, e2⟩ := R
  have H' := H
  obtain ⟨k1, ⟨g0, g1, g2, g3, g4⟩, g5, g6⟩ := H
  have h6 := e1.2.1
  by_cases hl : ar.length = 6
  · rw [if_pos hl]
    simp (disch := omega) only [U114_0, U114_1, U114_4, U114_7, U114_10, U114_13, U114_18, U114_19, U114_22, U114_23, U114_26, U114_27, U114_30, U114_33, k1, g2, e1.1.1, Event_isFull e1, V18, bz_0, hl, show 1 ≤ rc_ h by omega, show 6 ≤ rs_ h by omega, i_add, i_mul, i_sub, i_addn, i_lt, i_eq, i_idx, i_vp, true_and, and_true, false_and, and_false, if_true, if_false, Nat.reduceAdd, Nat.reduceMul, Nat.reduceSub, Nat.reduceEqDiff, Option.some.injEq, exists_eq_left', true_or, or_true, false_or, or_false, not_true_eq_false, not_false_eq_true, eq_self, and_self, Nat.reduceLeDiff, decide_true, decide_false, ne_eq, Nat.left_eq_add, Nat.add_eq_left, Nat.add_left_cancel_iff, Nat.add_zero]
    exact E'.thr
  · rw [if_neg hl]
    simp (disch := omega) only [U114_0, U114_1, U114_4, U114_7, U114_10, U114_13, U114_18, U114_19, U114_22, U114_23, U114_26, U114_27, U114_30, U114_33, k1, g2, e1.1.1, Event_isFull e1, V18, bz_0, hl, i_add, i_mul, i_sub, i_addn, i_lt, i_eq, i_idx, i_vp, true_and, and_true, false_and, and_false, if_true, if_false, Nat.reduceAdd, Nat.reduceMul, Nat.reduceSub, Nat.reduceEqDiff, Option.some.injEq, exists_eq_left', true_or, or_true, false_or, or_false, not_true_eq_false, not_false_eq_true, eq_self, and_self, Nat.reduceLeDiff, decide_true, decide_false, ne_eq, Nat.left_eq_add, Nat.add_eq_left, Nat.add_left_cancel_iff, Nat.add_zero]
    refine Wp_use (Event_addNumber e1 (by omega)) ?_
    rintro _ h2 ⟨rfl, e3, f2⟩
    simp (disch := omega) only [V11, U114_0, U114_1, U114_4, U114_7, U114_10, U114_13, U114_18, U114_19, U114_22, U114_23, U114_26, U114_27, U114_30, U114_33, f2.kd, f2.gP, k1, g2, e1.1.1, Event_held e3, V16, i_add, i_mul, i_sub, i_addn, i_lt, i_eq, i_idx, i_vp, true_and, and_true, false_and, and_false, if_true, if_false, Nat.reduceAdd, Nat.reduceMul, Nat.reduceSub, Nat.reduceEqDiff, Option.some.injEq, exists_eq_left', true_or, or_true, false_or, or_false, not_true_eq_false, not_false_eq_true, eq_self, and_self, Nat.reduceLeDiff, decide_true, decide_false, ne_eq, Nat.left_eq_add, Nat.add_eq_left, Nat.add_left_cancel_iff, Nat.add_zero]
    have f3 : Fa (fun a _ => x + 5 ≤ a ∧ a < x + 13) 20 20000 h h2 := (f2.mono (fun a i z => by unfold SE at z; omega)).fa.mono (fun _ _ _ z => z) (Nat.zero_le _) (Nat.zero_le _)
    have g := f3.fb
    exact ⟨by rw [List.length_append]; rfl, f3.fb.mono (fun a i _ z => Or.inl (by omega)), t1, t2, a1, a2, d, sA, fs, pl, pr, sr, nA, H'.fb g hx (by intro a i z w; omega), Tt.fb g hx (by intro a i z w; omega), ⟨az, e3, e2.fz f2⟩, P.fb g hx (by intro a i z w; omega), F.fb g hx (by intro a i z w; omega), Bq.fb g hx (by intro a i z w; omega), I.fb g hx (by intro a i z w; omega), Qq.fb g hx (by intro a i z w; omega), N.fb' g hx (by intro a i z w; omega), L.fa f3 (by intro a i z w; omega)⟩
theorem cut_all {l : List Nat} : cut l 0 l.length = l := by
  apply List.ext_getElem
  · rw [cut_len]
  · intro i h1 h2
    rw [← gD_in h1, cut_at h2, Nat.zero_add, gD_in h2]
theorem EL_text (E : EL h x (B + 20) (C + 20000) tx si nm ar wr fl du cu es br tm) : Wp 138 0 [.ref x, .null] [] h (if 16 < tx.length then PZ h x B C (.inr 22) [] si nm ar wr fl du cu es br tm else if ar.length = 6 then PZ h x B C (.inr 20) [] si nm ar wr fl du cu es br tm else PZ h x B C (.inl (.int (Int32.ofNat (ar.length + 1)))) [] si nm (ar ++ [.inr tx]) wr fl du cu es br tm) := by
  have k1 : kd_ h x = 12 := by obtain ⟨t1, t2, a1, a2, d, sA, fs, pl, pr, sr, nA, H, -⟩ := E; exact H.1
  simp (disch := omega) only [U138_0, U138_1, U138_4, U138_5, U138_6, U138_9, U138_11, U138_14, U138_17, U138_22, U138_23, U138_26, U138_29, U138_32, U138_35, U138_40, U138_41, U138_44, U138_45, U138_46, U138_47, U138_50, U138_53, U138_54, U138_57, U138_60, k1, i_add, i_mul, i_sub, i_addn, i_lt, i_eq, i_idx, i_vp, true_and, and_true, false_and, and_false, if_true, if_false, Nat.reduceAdd, Nat.reduceMul, Nat.reduceSub, Nat.reduceEqDiff, Option.some.injEq, exists_eq_left', true_or, or_true, false_or, or_false, not_true_eq_false, not_false_eq_true, eq_self, and_self, Nat.reduceLeDiff, decide_true, decide_false, ne_eq, Nat.left_eq_add, Nat.add_eq_left, Nat.add_left_cancel_iff, Nat.add_zero]
  refine Wp_use (EL_takeTyped E) ?_
  rintro v h1 ⟨t, rfl, ht, rt, f1, E1⟩
  have hS : ∀ a i, (fun (a _ : Nat) => x ≤ a ∧ a < x + 5) a i → SX x a i := fun a i z => Or.inl (by omega)
  have hl := rt.2.2.2.2.2.1
  obtain ⟨rm1, rm2⟩ := E1.room
  have E' := E1
  have hx := E1.nx
  obtain ⟨t1, t2, a1, a2, d, sA, fs, pl, pr, sr, nA, H, Tt, R, P, F, Bq, I, Qq, N, L⟩ := E1
  obtain ⟨az, e1, e2⟩ := R
  have H' := H
  obtain ⟨k1', ⟨g0, g1, g2, g3, g4⟩, g5, g6⟩ := H
  have h6 := e1.2.1
  by_cases c1 : 16 < tx.length
  · rw [if_pos c1]
    simp (disch := omega) only [V137, U138_0, U138_1, U138_4, U138_5, U138_6, U138_9, U138_11, U138_14, U138_17, U138_22, U138_23, U138_26, U138_29, U138_32, U138_35, U138_40, U138_41, U138_44, U138_45, U138_46, U138_47, U138_50, U138_53, U138_54, U138_57, U138_60, rt.1, Row_held rt, V89, c1, show 1 ≤ rc_ h1 by omega, show 6 ≤ rs_ h1 by omega, i_add, i_mul, i_sub, i_addn, i_lt, i_eq, i_idx, i_vp, true_and, and_true, false_and, and_false, if_true, if_false, Nat.reduceAdd, Nat.reduceMul, Nat.reduceSub, Nat.reduceEqDiff, Option.some.injEq, exists_eq_left', true_or, or_true, false_or, or_false, not_true_eq_false, not_false_eq_true, eq_self, and_self, Nat.reduceLeDiff, decide_true, decide_false, ne_eq, Nat.left_eq_add, Nat.add_eq_left, Nat.add_left_cancel_iff, Nat.add_zero]
    exact PZ.tr f1 hS _ _ E'.thr
  · rw [if_neg c1]
    by_cases c2 : ar.length = 6
    · rw [if_pos c2]
      simp (disch := omega) only [V137, U138_0, U138_1, U138_4, U138_5, U138_6, U138_9, U138_11, U138_14, U138_17, U138_22, U138_23, U138_26, U138_29, U138_32, U138_35, U138_40, U138_41, U138_44, U138_45, U138_46, U138_47, U138_50, U138_53, U138_54, U138_57, U138_60, rt.1, Row_held rt, V89, c1, k1', g2, e1.1.1, Event_isFull e1, V18, bz_0, c2, show 1 ≤ rc_ h1 by omega, show 6 ≤ rs_ h1 by omega, i_add, i_mul, i_sub, i_addn, i_lt, i_eq, i_idx, i_vp, true_and, and_true, false_and, and_false, if_true, if_false, Nat.reduceAdd, Nat.reduceMul, Nat.reduceSub, Nat.reduceEqDiff, Option.some.injEq, exists_eq_left', true_or, or_true, false_or, or_false, not_true_eq_false, not_false_eq_true, eq_self, and_self, Nat.reduceLeDiff, decide_true, decide_false, ne_eq, Nat.left_eq_add, Nat.add_eq_left, Nat.add_left_cancel_iff, Nat.add_zero]
      exact PZ.tr f1 hS _ _ E'.thr
    · rw [if_neg c2]
      simp (disch := omega) only [V137, U138_0, U138_1, U138_4, U138_5, U138_6, U138_9, U138_11, U138_14, U138_17, U138_22, U138_23, U138_26, U138_29, U138_32, U138_35, U138_40, U138_41, U138_44, U138_45, U138_46, U138_47, U138_50, U138_53, U138_54, U138_57, U138_60, rt.1, Row_held rt, V89, c1, k1', g2, e1.1.1, Event_isFull e1, V18, bz_0, c2, i_add, i_mul, i_sub, i_addn, i_lt, i_eq, i_idx, i_vp, true_and, and_true, false_and, and_false, if_true, if_false, Nat.reduceAdd, Nat.reduceMul, Nat.reduceSub, Nat.reduceEqDiff, Option.some.injEq, exists_eq_left', true_or, or_true, false_or, or_false, not_true_eq_false, not_false_eq_true, eq_self, and_self, Nat.reduceLeDiff, decide_true, decide_false, ne_eq, Nat.left_eq_add, Nat.add_eq_left, Nat.add_left_cancel_iff, Nat.add_zero]
      refine Wp_use (Event_addText (p := 0) (n := tx.length) e1 rt (by omega) (by omega) (by omega) (by omega)) ?_
      rintro _ h2 ⟨rfl, e3, f2⟩
      rw [cut_all] at e3
      simp (disch := omega) only [V12, U138_0, U138_1, U138_4, U138_5, U138_6, U138_9, U138_11, U138_14, U138_17, U138_22, U138_23, U138_26, U138_29, U138_32, U138_35, U138_40, U138_41, U138_44, U138_45, U138_46, U138_47, U138_50, U138_53, U138_54, U138_57, U138_60, f2.kd, f2.gP, k1', g2, e1.1.1, Event_held e3, V16, i_add, i_mul, i_sub, i_addn, i_lt, i_eq, i_idx, i_vp, true_and, and_true, false_and, and_false, if_true, if_false, Nat.reduceAdd, Nat.reduceMul, Nat.reduceSub, Nat.reduceEqDiff, Option.some.injEq, exists_eq_left', true_or, or_true, false_or, or_false, not_true_eq_false, not_false_eq_true, eq_self, and_self, Nat.reduceLeDiff, decide_true, decide_false, ne_eq, Nat.left_eq_add, Nat.add_eq_left, Nat.add_left_cancel_iff, Nat.add_zero]
      have f3 : Fa (fun a _ => x + 5 ≤ a ∧ a < x + 13) 20 20000 h1 h2 := (f2.mono (fun a i z => by unfold SE at z; omega)).fa.mono (fun _ _ _ z => z) (Nat.zero_le _) (Nat.zero_le _)
      have g := f3.fb
      refine PZ.tr f1 hS _ _ ?_
      exact ⟨by rw [List.length_append]; rfl, f3.fb.mono (fun a i _ z => Or.inl (by omega)), t1, t2, a1, a2, d, sA, fs, pl, pr, sr, nA, H'.fb g hx (by intro a i z w; omega), Tt.fb g hx (by intro a i z w; omega), ⟨az, e3, e2.fz f2⟩, P.fb g hx (by intro a i z w; omega), F.fb g hx (by intro a i z w; omega), Bq.fb g hx (by intro a i z w; omega), I.fb g hx (by intro a i z w; omega), Qq.fb g hx (by intro a i z w; omega), N.fb' g hx (by intro a i z w; omega), L.fa f3 (by intro a i z w; omega)⟩
end
