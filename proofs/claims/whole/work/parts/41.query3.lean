/-! ===== Query: a term more ===== -/
theorem Qr.add {h : MH_} {q k : Nat} {a b : Int32} {tms : List Tm} {tm : Tm} (hq : Qr h q tms) (hl : tms.length < 4) (ht : (k < 4 ∧ tm = .inl (k, a, b)) ∨ (k = 4 ∧ ∃ t, tm = .inr t ∧ Rw h (q + 5 + 2 * tms.length) 24 t)) :
    Qr (sI_ (sI_ (sI_ (sI_ h (q + 1) tms.length (Int32.ofNat k)) (q + 2) tms.length a) (q + 3) tms.length b) q 4 (Int32.ofNat (tms.length + 1))) q (tms ++ [tm]) ∧ Fz (SQ q) h (sI_ (sI_ (sI_ (sI_ h (q + 1) tms.length (Int32.ofNat k)) (q + 2) tms.length a) (q + 3) tms.length b) q 4 (Int32.ofNat (tms.length + 1))) := by
  have z : Fz (fun a i => (a = q ∧ i = 4) ∨ ((a = q + 1 ∨ a = q + 2 ∨ a = q + 3) ∧ i = tms.length)) h (sI_ (sI_ (sI_ (sI_ h (q + 1) tms.length (Int32.ofNat k)) (q + 2) tms.length a) (q + 3) tms.length b) q 4 (Int32.ofNat (tms.length + 1))) := (((Fz.rfl'.sI (Or.inr ⟨Or.inl rfl, rfl⟩)).sI (Or.inr ⟨Or.inr (Or.inl rfl), rfl⟩)).sI (Or.inr ⟨Or.inr (Or.inr rfl), rfl⟩)).sI (Or.inl ⟨rfl, rfl⟩)
  refine ⟨⟨hq.1.fz z, fun i hi => ?_, by rw [List.length_append]; exact hl, by rw [z_gI_sI, if_pos ⟨rfl, rfl⟩, List.length_append]; rfl, fun i hi => ?_⟩, z.mono (fun a i y => by unfold SQ; omega)⟩
  · obtain ⟨l, hl⟩ := hq.2.1 i hi
    exact ⟨l, hl.fz z (by unfold SR; intro a i y1 y2; omega)⟩
  · rw [List.length_append, List.length_singleton] at hi
    by_cases h1 : i < tms.length
    · rw [List.getElem_append_left h1]
      have c := hq.2.2.2.2 i h1
      revert c
      cases tms[i] with
      | inl x =>
        obtain ⟨k', a', b'⟩ := x
        intro c
        exact ⟨c.1, by rw [z.gI (by omega)]; exact c.2.1, by rw [z.gI (by omega)]; exact c.2.2.1, by rw [z.gI (by omega)]; exact c.2.2.2⟩
      | inr t =>
        intro c
        exact ⟨by rw [z.gI (by omega)]; exact c.1, c.2.fz z (by unfold SR; intro a i y1 y2; omega)⟩
    · have h2 : i = tms.length := by omega
      subst h2
      rw [List.getElem_append_right (Nat.le_refl _)]
      simp only [Nat.sub_self, List.getElem_cons_zero]
      rcases ht with ⟨hk, rfl⟩ | ⟨rfl, t, rfl, hr⟩
      · refine ⟨hk, ?_, ?_, ?_⟩
        · rw [z_gI_sI, if_neg (by omega), z_gI_sI, if_neg (by omega), z_gI_sI, if_neg (by omega), z_gI_sI, if_pos ⟨rfl, rfl⟩]
        · rw [z_gI_sI, if_neg (by omega), z_gI_sI, if_neg (by omega), z_gI_sI, if_pos ⟨rfl, rfl⟩]
        · rw [z_gI_sI, if_neg (by omega), z_gI_sI, if_pos ⟨rfl, rfl⟩]
      · refine ⟨?_, hr.fz z (by unfold SR; intro a i y1 y2; omega)⟩
        rw [z_gI_sI, if_neg (by omega), z_gI_sI, if_neg (by omega), z_gI_sI, if_neg (by omega), z_gI_sI, if_pos ⟨rfl, rfl⟩]
theorem Query_addTerm {h : MH_} {q k : Nat} {a b : Int32} {tms : List Tm} {tm : Tm} (hq : Qr h q tms) (hl : tms.length < 4) (ht : (k < 4 ∧ tm = .inl (k, a, b)) ∨ (k = 4 ∧ ∃ t, tm = .inr t ∧ Rw h (q + 5 + 2 * tms.length) 24 t)) : Wp 77 0 [.ref q, .int (Int32.ofNat k), .int a, .int b] [] h (fun v h' => v = .inl .null ∧ Qr h' q (tms ++ [tm]) ∧ Fz (SQ q) h h') := by
  have e := hq.add hl ht
  have hq' := hq
  obtain ⟨⟨⟨a1, a2, a3, a4, a5⟩, ⟨b1, b2, b3, b4, b5, b6, b7, b8⟩, c1⟩, d1, d2, d3, d4⟩ := hq
  simp (disch := omega) only [U77_0, U77_1, U77_4, U77_7, U77_8, U77_9, U77_12, U77_13, U77_16, U77_17, U77_18, U77_19, U77_22, U77_23, U77_26, U77_27, U77_28, U77_29, U77_32, U77_33, U77_36, U77_37, U77_38, U77_39, U77_40, U77_43, U77_44, U77_45, U77_48, Query_isFull hq', V82, bz_0, z_kd_sI, z_ln_sI, z_gI_sI, z_gJ_sI, z_gP_sI, z_nx_sI, z_rc_sI, z_rs_sI, z_em_sI, z_mi_sI, z_kd_sJ, z_ln_sJ, z_gI_sJ, z_gJ_sJ, z_gP_sJ, z_nx_sJ, z_rc_sJ, z_rs_sJ, z_em_sJ, z_mi_sJ, z_kd_sP, z_ln_sP, z_gI_sP, z_gJ_sP, z_gP_sP, z_nx_sP, z_rc_sP, z_rs_sP, z_em_sP, z_mi_sP, z_kd_nw, z_ln_nw, z_gI_nw, z_gJ_nw, z_gP_nw, z_nx_nw, z_rc_nw, z_rs_nw, z_em_nw, z_mi_nw, z_kd_cI, z_ln_cI, z_gI_cI, z_gJ_cI, z_gP_cI, z_nx_cI, z_rc_cI, z_rs_cI, z_em_cI, z_mi_cI, z_kd_cP, z_ln_cP, z_gI_cP, z_gJ_cP, z_gP_cP, z_nx_cP, z_rc_cP, z_rs_cP, z_em_cP, z_mi_cP, z_kd_wI, z_ln_wI, z_gI_wI, z_gJ_wI, z_gP_wI, z_nx_wI, z_rc_wI, z_rs_wI, z_em_wI, z_mi_wI, z_kd_wJ, z_ln_wJ, z_gI_wJ, z_gJ_wJ, z_gP_wJ, z_nx_wJ, z_rc_wJ, z_rs_wJ, z_em_wJ, z_mi_wJ, a1, a2, a3, a4, b1, b2, b3, b4, b5, b6, d3, hl, show ¬ tms.length = 4 by omega, i_add, i_mul, i_sub, i_addn, i_lt, i_eq, i_idx, i_vp, true_and, and_true, false_and, and_false, if_true, if_false, Nat.reduceAdd, Nat.reduceMul, Nat.reduceSub, Nat.reduceEqDiff, Option.some.injEq, exists_eq_left', true_or, or_true, false_or, or_false, not_true_eq_false, not_false_eq_true, eq_self, and_self, Nat.reduceLeDiff, decide_true, decide_false, ne_eq, Nat.left_eq_add, Nat.add_eq_left, Nat.add_left_cancel_iff, Nat.add_zero]
  exact e
theorem Query_addSearch {h : MH_} {q r c : Nat} {tms : List Tm} {t : List Nat} (hq : Qr h q tms) (hl : tms.length < 4) (hr : Rw h r c t) (ht : t.length ≤ 24) (ap : r + 2 ≤ q ∨ q + 13 ≤ r) : Wp 76 0 [.ref q, .ref r] [] h (fun v h' => v = .inl .null ∧ Qr h' q (tms ++ [.inr t]) ∧ Fz (SQ q) h h') := by
  have hq' := hq
  obtain ⟨⟨⟨a1, a2, a3, a4, a5⟩, ⟨b1, b2, b3, b4, b5, b6, b7, b8⟩, c1⟩, d1, d2, d3, d4⟩ := hq
  obtain ⟨l, hpr⟩ := d1 tms.length hl
  have keep : ∀ u u', Qr u q tms → Fz (SR (q + 5 + 2 * tms.length)) u u' → (∃ l, Rw u' (q + 5 + 2 * tms.length) 24 l) → Qr u' q tms := by
    intro u u' hq z hx
    obtain ⟨e1, e2, e3, e4, e5⟩ := hq
    refine ⟨e1.fz z, fun i hi => ?_, e3, by rw [z.gI (by unfold SR; omega)]; exact e4, fun i hi => ?_⟩
    · by_cases h1 : i = tms.length
      · subst h1; exact hx
      · obtain ⟨l, hl⟩ := e2 i hi
        exact ⟨l, hl.fz z (by unfold SR; intro a i y1 y2; omega)⟩
    · have c := e5 i hi
      revert c
      cases tms[i] with
      | inl x =>
        obtain ⟨k', a', b'⟩ := x
        intro c
        exact ⟨c.1, by rw [z.gI (by unfold SR; omega)]; exact c.2.1, by rw [z.gI (by unfold SR; omega)]; exact c.2.2.1, by rw [z.gI (by unfold SR; omega)]; exact c.2.2.2⟩
      | inr t =>
        intro c
        exact ⟨by rw [z.gI (by unfold SR; omega)]; exact c.1, c.2.fz z (by unfold SR; intro a i y1 y2; omega)⟩
  have toQ : ∀ u u', Fz (SR (q + 5 + 2 * tms.length)) u u' → Fz (SQ q) u u' := fun u u' z => z.mono (fun a i y => by unfold SR at y; unfold SQ; omega)
  simp (disch := omega) only [U76_0, U76_1, U76_4, U76_7, U76_8, U76_9, U76_12, U76_13, U76_16, U76_17, U76_20, U76_21, U76_24, U76_25, U76_28, U76_29, U76_30, U76_33, U76_34, U76_35, U76_36, U76_37, U76_40, Query_isFull hq', V82, bz_0, a1, a5, b7, b8, d3, hl, hpr.1, c1 tms.length hl, show ¬ tms.length = 4 by omega, show (34 : Nat) ≤ 36 by decide, show (36 : Nat) ≤ 36 by decide, i_add, i_mul, i_sub, i_addn, i_lt, i_eq, i_idx, i_vp, true_and, and_true, false_and, and_false, if_true, if_false, Nat.reduceAdd, Nat.reduceMul, Nat.reduceSub, Nat.reduceEqDiff, Option.some.injEq, exists_eq_left', true_or, or_true, false_or, or_false, not_true_eq_false, not_false_eq_true, eq_self, and_self, Nat.reduceLeDiff, decide_true, decide_false, ne_eq, Nat.left_eq_add, Nat.add_eq_left, Nat.add_left_cancel_iff, Nat.add_zero]
  refine Wp_use (Row_begin hpr) ?_
  rintro _ h1 ⟨rfl, hr1, f1⟩
  have q1 := keep h h1 hq' f1 ⟨_, hr1⟩
  have rr1 : Rw h1 r c t := hr.fz f1 (by unfold SR; intro a i y1 y2; omega)
  simp (disch := omega) only [V86, U76_0, U76_1, U76_4, U76_7, U76_8, U76_9, U76_12, U76_13, U76_16, U76_17, U76_20, U76_21, U76_24, U76_25, U76_28, U76_29, U76_30, U76_33, U76_34, U76_35, U76_36, U76_37, U76_40, q1.1.1.1, q1.1.1.2.2.2.2, q1.1.2.1.2.2.2.2.2.2.1, q1.1.2.1.2.2.2.2.2.2.2, q1.2.2.2.1, hl, hr1.1, q1.1.2.2 tms.length hl, show (34 : Nat) ≤ 36 by decide, show (36 : Nat) ≤ 36 by decide, i_add, i_mul, i_sub, i_addn, i_lt, i_eq, i_idx, i_vp, true_and, and_true, false_and, and_false, if_true, if_false, Nat.reduceAdd, Nat.reduceMul, Nat.reduceSub, Nat.reduceEqDiff, Option.some.injEq, exists_eq_left', true_or, or_true, false_or, or_false, not_true_eq_false, not_false_eq_true, eq_self, and_self, Nat.reduceLeDiff, decide_true, decide_false, ne_eq, Nat.left_eq_add, Nat.add_eq_left, Nat.add_left_cancel_iff, Nat.add_zero]
  refine Wp_use (Row_putRow hr1 rr1 (by rw [List.length_nil]; omega) (by omega)) ?_
  rintro _ h2 ⟨rfl, hr2, f2⟩
  rw [List.nil_append] at hr2
  have q2 := keep h1 h2 q1 f2 ⟨_, hr2⟩
  simp (disch := omega) only [V95, U76_0, U76_1, U76_4, U76_7, U76_8, U76_9, U76_12, U76_13, U76_16, U76_17, U76_20, U76_21, U76_24, U76_25, U76_28, U76_29, U76_30, U76_33, U76_34, U76_35, U76_36, U76_37, U76_40, q2.1.1.1, true_and, and_true, false_and, and_false, if_true, if_false, Nat.reduceAdd, Nat.reduceMul, Nat.reduceSub, Nat.reduceEqDiff, Option.some.injEq, exists_eq_left', true_or, or_true, false_or, or_false, not_true_eq_false, not_false_eq_true, eq_self, and_self, Nat.reduceLeDiff, decide_true, decide_false, ne_eq, Nat.left_eq_add, Nat.add_eq_left, Nat.add_left_cancel_iff, Nat.add_zero]
  refine Wp_use (Query_addTerm (tm := .inr t) q2 hl (Or.inr ⟨rfl, t, rfl, hr2⟩)) ?_
  rintro _ h3 ⟨rfl, hr3, f3⟩
  simp (disch := omega) only [V77, U76_0, U76_1, U76_4, U76_7, U76_8, U76_9, U76_12, U76_13, U76_16, U76_17, U76_20, U76_21, U76_24, U76_25, U76_28, U76_29, U76_30, U76_33, U76_34, U76_35, U76_36, U76_37, U76_40, true_and, and_true, false_and, and_false, if_true, if_false, Nat.reduceAdd, Nat.reduceMul, Nat.reduceSub, Nat.reduceEqDiff, Option.some.injEq, exists_eq_left', true_or, or_true, false_or, or_false, not_true_eq_false, not_false_eq_true, eq_self, and_self, Nat.reduceLeDiff, decide_true, decide_false, ne_eq, Nat.left_eq_add, Nat.add_eq_left, Nat.add_left_cancel_iff, Nat.add_zero]
  exact ⟨hr3, ((toQ _ _ f1).trans (toQ _ _ f2)).trans f3⟩
