/-! ===== Query: holds ===== -/
def npH (w s : Nat) (as : List Arg) (tm : Tm) : Bool := match tm with | .inl x => tm1 w s as x | .inr _ => true
def tmH (nm : Nat → List Nat) (ts : List Tok) (w s : Nat) (as : List Arg) (tm : Tm) : Bool := match tm with | .inl x => tm1 w s as x | .inr t => cont (prF nm as ts 0) t
theorem tmH_all {nm : Nat → List Nat} {ts : List Tok} {w s : Nat} {as : List Arg} : ∀ {tms : List Tm}, tms.all (tmH nm ts w s as) = (tms.all (npH w s as) && tms.all (ptH (prF nm as ts 0)))
  | [] => rfl
  | tm :: r => by
    rw [List.all_cons, List.all_cons, List.all_cons, tmH_all (tms := r)]
    cases tm with
    | inl x => simp only [tmH, npH, ptH, Bool.true_and, Bool.and_assoc]
    | inr t => simp only [tmH, npH, ptH, Bool.true_and, Bool.and_left_comm]
theorem take_all {α : Type} {g : α → Bool} {l : List α} {k : Nat} (hk : k < l.length) (h : (l.take k).all g = true) (h2 : g l[k] = true) : (l.take (k + 1)).all g = true := by
  rw [List.take_add_one, List.getElem?_eq_getElem hk, List.all_append, h]
  simp [h2]
theorem Query_holds {h : MH_} {q e f p w s : Nat} {t : Int64} {tms : List Tm} {as : List Arg} {ts : List Tok} {nm : Nat → List Nat} {l0 : List Nat} (hq : Qr h q tms) (hp : Pr h p) (hn : Nm h (p + 1) nm) (hr : Rw h (p + 4) 176 l0) (hf : Fs h f) (hc : Fc h f ts) (ho : okS ts) (he : Ea h e as) (hw : Ew h e w s t) (hfit : fit ts as = true) (ae : e + 4 ≤ p ∨ p + 7 ≤ e) (af : f + 6 ≤ p ∨ p + 7 ≤ f) (aq : q + 13 ≤ p ∨ p + 7 ≤ q) : Wp 80 0 [.ref q, .ref e, .ref f, .ref p, .null, .null] [] h (fun v h' => v = .inl (.int (bz (tms.all (tmH nm ts w s as) = true))) ∧ (∃ l, Rw h' (p + 4) 176 l) ∧ Fz (SP p) h h') := by
  have hq' := hq
  obtain ⟨hqs, d1, d2, d3, d4⟩ := hq
  have hqs' := hqs
  obtain ⟨⟨a1, a2, a3, a4, a5⟩, ⟨b1, b2, b3, b4, b5, b6, b7, b8⟩, c1⟩ := hqs
  have key : ∀ n k fl, k + n = tms.length → fl ≤ 1 → (tms.take k).all (npH w s as) = true → (fl = 0 → (tms.take k).all (ptH (prF nm as ts 0)) = true) → Wp 80 6 [.ref q, .ref e, .ref f, .ref p, .int (Int32.ofNat fl), .int (Int32.ofNat k)] [] h (fun v h' => v = .inl (.int (bz (tms.all (tmH nm ts w s as) = true))) ∧ (∃ l, Rw h' (p + 4) 176 l) ∧ Fz (SP p) h h') := by
    intro n
    induction n with
    | zero =>
      intro k fl hk hfl hnp hpt
      rw [List.take_of_length_le (by omega)] at hnp hpt
      rw [U80_6]
      by_cases h0 : fl = 0
      · simp (disch := omega) only [U80_0, U80_1, U80_3, U80_4, U80_8, U80_9, U80_12, U80_15, U80_16, U80_19, U80_21, U80_22, U80_23, U80_26, U80_27, U80_29, U80_32, U80_33, U80_35, U80_36, U80_39, U80_42, U80_43, U80_44, U80_47, U80_50, U80_52, U80_55, U80_56, U80_57, U80_58, U80_59, U80_62, U80_65, U80_68, U80_69, U80_72, U80_73, a1, d3, h0, show ¬ k < tms.length by omega, i_add, i_mul, i_sub, i_addn, i_lt, i_eq, i_idx, i_vp, true_and, and_true, false_and, and_false, if_true, if_false, Nat.reduceAdd, Nat.reduceMul, Nat.reduceSub, Nat.reduceEqDiff, Option.some.injEq, exists_eq_left', true_or, or_true, false_or, or_false, not_true_eq_false, not_false_eq_true, eq_self, and_self, Nat.reduceLeDiff, decide_true, decide_false, ne_eq, Nat.left_eq_add, Nat.add_eq_left, Nat.add_left_cancel_iff, Nat.add_zero]
        rw [← bz_t (p := tms.all (tmH nm ts w s as) = true) (by rw [tmH_all, hnp, hpt h0]; rfl)]
        exact ⟨rfl, ⟨_, hr⟩, Fz.rfl'⟩
      · simp (disch := omega) only [U80_0, U80_1, U80_3, U80_4, U80_8, U80_9, U80_12, U80_15, U80_16, U80_19, U80_21, U80_22, U80_23, U80_26, U80_27, U80_29, U80_32, U80_33, U80_35, U80_36, U80_39, U80_42, U80_43, U80_44, U80_47, U80_50, U80_52, U80_55, U80_56, U80_57, U80_58, U80_59, U80_62, U80_65, U80_68, U80_69, U80_72, U80_73, a1, d3, h0, hp.1, show ¬ k < tms.length by omega, i_add, i_mul, i_sub, i_addn, i_lt, i_eq, i_idx, i_vp, true_and, and_true, false_and, and_false, if_true, if_false, Nat.reduceAdd, Nat.reduceMul, Nat.reduceSub, Nat.reduceEqDiff, Option.some.injEq, exists_eq_left', true_or, or_true, false_or, or_false, not_true_eq_false, not_false_eq_true, eq_self, and_self, Nat.reduceLeDiff, decide_true, decide_false, ne_eq, Nat.left_eq_add, Nat.add_eq_left, Nat.add_left_cancel_iff, Nat.add_zero]
        refine Wp_use (Printer_print hp hn hr hf hc ho he hfit ae af) ?_
        rintro _ h1 ⟨rfl, hr1, f1⟩
        have hq1 : Qr h1 q tms := hq'.fz f1 (by unfold SQ SP SR; intro a i y1 y2; omega)
        simp (disch := omega) only [V71, U80_0, U80_1, U80_3, U80_4, U80_8, U80_9, U80_12, U80_15, U80_16, U80_19, U80_21, U80_22, U80_23, U80_26, U80_27, U80_29, U80_32, U80_33, U80_35, U80_36, U80_39, U80_42, U80_43, U80_44, U80_47, U80_50, U80_52, U80_55, U80_56, U80_57, U80_58, U80_59, U80_62, U80_65, U80_68, U80_69, U80_72, U80_73, hq1.1.1.1, Query_partsStandIn hq1 hr1, V83, bz_0, i_add, i_mul, i_sub, i_addn, i_lt, i_eq, i_idx, i_vp, true_and, and_true, false_and, and_false, if_true, if_false, Nat.reduceAdd, Nat.reduceMul, Nat.reduceSub, Nat.reduceEqDiff, Option.some.injEq, exists_eq_left', true_or, or_true, false_or, or_false, not_true_eq_false, not_false_eq_true, eq_self, and_self, Nat.reduceLeDiff, decide_true, decide_false, ne_eq, Nat.left_eq_add, Nat.add_eq_left, Nat.add_left_cancel_iff, Nat.add_zero]
        have e1 : tms.all (tmH nm ts w s as) = tms.all (ptH (prF nm as ts 0)) := by rw [tmH_all, hnp, Bool.true_and]
        rw [e1]
        by_cases hx : tms.all (ptH (prF nm as ts 0)) = true
        · rw [if_neg (fun z => z hx), ← bz_t hx]
          exact ⟨rfl, ⟨_, hr1⟩, f1⟩
        · rw [if_pos hx, ← bz_f hx]
          exact ⟨rfl, ⟨_, hr1⟩, f1⟩
    | succ n ih =>
      intro k fl hk hfl hnp hpt
      have hkl : k < tms.length := by omega
      have ht := d4 k hkl
      rw [U80_6]
      cases hx : tms[k] with
      | inl x =>
        rw [hx] at ht
        obtain ⟨kk, a, b⟩ := x
        have ht' := ht
        obtain ⟨t1, t2, t3, t4⟩ := ht
        simp (disch := omega) only [U80_0, U80_1, U80_3, U80_4, U80_8, U80_9, U80_12, U80_15, U80_16, U80_19, U80_21, U80_22, U80_23, U80_26, U80_27, U80_29, U80_32, U80_33, U80_35, U80_36, U80_39, U80_42, U80_43, U80_44, U80_47, U80_50, U80_52, U80_55, U80_56, U80_57, U80_58, U80_59, U80_62, U80_65, U80_68, U80_69, U80_72, U80_73, a1, a2, b1, b2, d3, t2, hkl, show k < 4 by omega, show ¬ kk = 4 by omega, Query_holdsUnprinted (tms := tms) hqs' (show k < 4 by omega) ht' he hw, V81, bz_0, i_add, i_mul, i_sub, i_addn, i_lt, i_eq, i_idx, i_vp, true_and, and_true, false_and, and_false, if_true, if_false, Nat.reduceAdd, Nat.reduceMul, Nat.reduceSub, Nat.reduceEqDiff, Option.some.injEq, exists_eq_left', true_or, or_true, false_or, or_false, not_true_eq_false, not_false_eq_true, eq_self, and_self, Nat.reduceLeDiff, decide_true, decide_false, ne_eq, Nat.left_eq_add, Nat.add_eq_left, Nat.add_left_cancel_iff, Nat.add_zero]
        by_cases hy : tm1 w s as (kk, a, b) = true
        · rw [if_neg (fun z => z hy)]
          exact ih (k + 1) fl (by omega) hfl (take_all hkl hnp (by rw [hx]; exact hy)) (fun z => take_all hkl (hpt z) (by rw [hx]; rfl))
        · rw [if_pos hy, ← bz_f (p := tms.all (tmH nm ts w s as) = true)]
          · exact ⟨rfl, ⟨_, hr⟩, Fz.rfl'⟩
          · intro z
            have := List.all_eq_true.mp z _ (List.getElem_mem hkl)
            rw [hx] at this
            exact hy this
      | inr tt =>
        rw [hx] at ht
        obtain ⟨t1, t2⟩ := ht
        simp (disch := omega) only [U80_0, U80_1, U80_3, U80_4, U80_8, U80_9, U80_12, U80_15, U80_16, U80_19, U80_21, U80_22, U80_23, U80_26, U80_27, U80_29, U80_32, U80_33, U80_35, U80_36, U80_39, U80_42, U80_43, U80_44, U80_47, U80_50, U80_52, U80_55, U80_56, U80_57, U80_58, U80_59, U80_62, U80_65, U80_68, U80_69, U80_72, U80_73, a1, a2, b1, b2, d3, t1, hkl, show k < 4 by omega, i_add, i_mul, i_sub, i_addn, i_lt, i_eq, i_idx, i_vp, true_and, and_true, false_and, and_false, if_true, if_false, Nat.reduceAdd, Nat.reduceMul, Nat.reduceSub, Nat.reduceEqDiff, Option.some.injEq, exists_eq_left', true_or, or_true, false_or, or_false, not_true_eq_false, not_false_eq_true, eq_self, and_self, Nat.reduceLeDiff, decide_true, decide_false, ne_eq, Nat.left_eq_add, Nat.add_eq_left, Nat.add_left_cancel_iff, Nat.add_zero]
        exact ih (k + 1) 1 (by omega) (by omega) (take_all hkl hnp (by rw [hx]; rfl)) (fun z => absurd z (by decide))
  simp (disch := omega) only [U80_0, U80_1, U80_3, U80_4, U80_8, U80_9, U80_12, U80_15, U80_16, U80_19, U80_21, U80_22, U80_23, U80_26, U80_27, U80_29, U80_32, U80_33, U80_35, U80_36, U80_39, U80_42, U80_43, U80_44, U80_47, U80_50, U80_52, U80_55, U80_56, U80_57, U80_58, U80_59, U80_62, U80_65, U80_68, U80_69, U80_72, U80_73, i_add, i_mul, i_sub, i_addn, i_lt, i_eq, i_idx, i_vp, true_and, and_true, false_and, and_false, if_true, if_false, Nat.reduceAdd, Nat.reduceMul, Nat.reduceSub, Nat.reduceEqDiff, Option.some.injEq, exists_eq_left', true_or, or_true, false_or, or_false, not_true_eq_false, not_false_eq_true, eq_self, and_self, Nat.reduceLeDiff, decide_true, decide_false, ne_eq, Nat.left_eq_add, Nat.add_eq_left, Nat.add_left_cancel_iff, Nat.add_zero]
  exact key tms.length 0 0 (by omega) (by omega) rfl (fun _ => rfl)
theorem Query_held {h : MH_} {q : Nat} {tms : List Tm} {Q : Rs_ → MH_ → Prop} (hq : Qr h q tms) : Wp 79 0 [.ref q] [] h Q ↔ Q (.inl (.int (Int32.ofNat tms.length))) h := by
  simp (disch := omega) only [U79_0, U79_1, U79_4, hq.1.1.1, hq.2.2.2.1, i_add, i_mul, i_sub, i_addn, i_lt, i_eq, i_idx, i_vp, true_and, and_true, false_and, and_false, if_true, if_false, Nat.reduceAdd, Nat.reduceMul, Nat.reduceSub, Nat.reduceEqDiff, Option.some.injEq, exists_eq_left', true_or, or_true, false_or, or_false, not_true_eq_false, not_false_eq_true, eq_self, and_self, Nat.reduceLeDiff, decide_true, decide_false, ne_eq, Nat.left_eq_add, Nat.add_eq_left, Nat.add_left_cancel_iff, Nat.add_zero]
theorem Query_isFull {h : MH_} {q : Nat} {tms : List Tm} {Q : Rs_ → MH_ → Prop} (hq : Qr h q tms) : Wp 82 0 [.ref q] [] h Q ↔ Q (.inl (.int (bz (tms.length = 4)))) h := by
  have h4 := hq.2.2.1
  simp (disch := omega) only [U82_0, U82_1, U82_4, U82_5, U82_8, U82_9, U82_12, U82_13, hq.1.1.1, hq.2.2.2.1, i_add, i_mul, i_sub, i_addn, i_lt, i_eq, i_idx, i_vp, true_and, and_true, false_and, and_false, if_true, if_false, Nat.reduceAdd, Nat.reduceMul, Nat.reduceSub, Nat.reduceEqDiff, Option.some.injEq, exists_eq_left', true_or, or_true, false_or, or_false, not_true_eq_false, not_false_eq_true, eq_self, and_self, Nat.reduceLeDiff, decide_true, decide_false, ne_eq, Nat.left_eq_add, Nat.add_eq_left, Nat.add_left_cancel_iff, Nat.add_zero]
  by_cases hl : tms.length = 4
  · rw [if_neg (by omega), bz_t hl]
  · rw [if_pos (by omega), bz_f hl]
theorem Query_begin {h : MH_} {q : Nat} {tms : List Tm} (hq : Qr h q tms) : Wp 78 0 [.ref q] [] h (fun v h' => v = .inl .null ∧ Qr h' q [] ∧ Fz (SQ q) h h') := by
  simp (disch := omega) only [U78_0, U78_1, U78_2, U78_5, z_kd_sI, z_ln_sI, z_gI_sI, z_gJ_sI, z_gP_sI, z_nx_sI, z_rc_sI, z_rs_sI, z_em_sI, z_mi_sI, z_kd_sJ, z_ln_sJ, z_gI_sJ, z_gJ_sJ, z_gP_sJ, z_nx_sJ, z_rc_sJ, z_rs_sJ, z_em_sJ, z_mi_sJ, z_kd_sP, z_ln_sP, z_gI_sP, z_gJ_sP, z_gP_sP, z_nx_sP, z_rc_sP, z_rs_sP, z_em_sP, z_mi_sP, z_kd_nw, z_ln_nw, z_gI_nw, z_gJ_nw, z_gP_nw, z_nx_nw, z_rc_nw, z_rs_nw, z_em_nw, z_mi_nw, z_kd_cI, z_ln_cI, z_gI_cI, z_gJ_cI, z_gP_cI, z_nx_cI, z_rc_cI, z_rs_cI, z_em_cI, z_mi_cI, z_kd_cP, z_ln_cP, z_gI_cP, z_gJ_cP, z_gP_cP, z_nx_cP, z_rc_cP, z_rs_cP, z_em_cP, z_mi_cP, z_kd_wI, z_ln_wI, z_gI_wI, z_gJ_wI, z_gP_wI, z_nx_wI, z_rc_wI, z_rs_wI, z_em_wI, z_mi_wI, z_kd_wJ, z_ln_wJ, z_gI_wJ, z_gJ_wJ, z_gP_wJ, z_nx_wJ, z_rc_wJ, z_rs_wJ, z_em_wJ, z_mi_wJ, hq.1.1.1, i_add, i_mul, i_sub, i_addn, i_lt, i_eq, i_idx, i_vp, true_and, and_true, false_and, and_false, if_true, if_false, Nat.reduceAdd, Nat.reduceMul, Nat.reduceSub, Nat.reduceEqDiff, Option.some.injEq, exists_eq_left', true_or, or_true, false_or, or_false, not_true_eq_false, not_false_eq_true, eq_self, and_self, Nat.reduceLeDiff, decide_true, decide_false, ne_eq, Nat.left_eq_add, Nat.add_eq_left, Nat.add_left_cancel_iff, Nat.add_zero]
  have z : Fz (fun a i => a = q ∧ i = 4) h (sI_ h q 4 (Int32.ofNat 0)) := Fz.rfl'.sI ⟨rfl, rfl⟩
  refine ⟨⟨hq.1.fz z, fun i hi => ?_, Nat.zero_le _, by rw [z_gI_sI, if_pos ⟨rfl, rfl⟩]; rfl, fun i hi => absurd hi (Nat.not_lt_zero _)⟩, z.mono (fun a i y => Or.inl y)⟩
  obtain ⟨l, hl⟩ := hq.2.1 i hi
  exact ⟨l, hl.fz z (by unfold SR; intro a i y1 y2; omega)⟩
