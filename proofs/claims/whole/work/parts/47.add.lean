/-! ===== ArrayList: add ===== -/
/-- slots that a list takes when it grows -/
def grw (n : Nat) : Nat := if n = 0 then 10 else n + max 1 (n / 2)
theorem AL_add {h : MH_} {a arr x : Nat} {xs : List Nat} (hl : Al h a arr xs) (hk : 1 ≤ kd_ h x ∧ kd_ h x ≤ 14 ∧ x < nx_ h) (hx : ∀ x ∈ xs, x < nx_ h ∧ 1 ≤ kd_ h x ∧ kd_ h x ≤ 14) (ha : a < nx_ h) (har : arr < nx_ h) (ne : ¬ a = arr) (hc : ln_ h arr ≤ 300000) (hr : 1 ≤ rc_ h) (hs : grw (ln_ h arr) ≤ rs_ h) : Wp 211 0 [.ref a, .ref x] [] h (fun v h' => v = .inl (.int (Int32.ofNat 1)) ∧ ∃ arr', Al h' a arr' (xs ++ [x]) ∧ ((arr' = arr ∧ kd_ h arr = 34 ∧ Fy (fun b i => (b = a ∧ (i = 0 ∨ i = 2)) ∨ (b = arr ∧ i = xs.length)) h h') ∨ (arr' = nx_ h ∧ nx_ h' = nx_ h + 1 ∧ xs.length = ln_ h arr ∧ ln_ h' arr' = grw (ln_ h arr) ∧ Fa (fun b _ => b = a) 1 (grw (ln_ h arr)) h h'))) := by
  have hn := hl.len
  have hl' := hl
  obtain ⟨a1, a2, a3, a4⟩ := hl
  have hmod : Fz (fun b i => b = a ∧ i = 0) h (sI_ h a 0 (gI_ h a 0 + Int32.ofNat 1)) := Fz.rfl'.sI ⟨rfl, rfl⟩
  have hl1 := hl'.fz hmod (by omega)
  by_cases hroom : kd_ h arr = 34 ∧ xs.length < ln_ h arr
  · rcases a4 with ⟨b1, b2, b3, b4⟩ | ⟨b1, b2, b3, b4, b5⟩
    · rw [hroom.1] at b3; exact absurd b3 (by decide)
    · simp (disch := omega) only [U211_0, U211_1, U211_2, U211_5, U211_6, U211_7, U211_10, U211_11, U211_12, U211_13, U211_16, U211_17, U211_20, U211_23, U211_24, U212_0, U212_1, U212_2, U212_3, U212_6, U212_7, U212_10, U212_11, U212_12, U212_13, U212_14, U212_15, U212_16, U212_17, U212_18, U212_19, U212_22, V212, z_kd_sI, z_ln_sI, z_gI_sI, z_gJ_sI, z_gP_sI, z_nx_sI, z_rc_sI, z_rs_sI, z_em_sI, z_mi_sI, z_kd_sJ, z_ln_sJ, z_gI_sJ, z_gJ_sJ, z_gP_sJ, z_nx_sJ, z_rc_sJ, z_rs_sJ, z_em_sJ, z_mi_sJ, z_kd_sP, z_ln_sP, z_gI_sP, z_gJ_sP, z_gP_sP, z_nx_sP, z_rc_sP, z_rs_sP, z_em_sP, z_mi_sP, z_kd_nw, z_ln_nw, z_gI_nw, z_gJ_nw, z_gP_nw, z_nx_nw, z_rc_nw, z_rs_nw, z_em_nw, z_mi_nw, z_kd_cI, z_ln_cI, z_gI_cI, z_gJ_cI, z_gP_cI, z_nx_cI, z_rc_cI, z_rs_cI, z_em_cI, z_mi_cI, z_kd_cP, z_ln_cP, z_gI_cP, z_gJ_cP, z_gP_cP, z_nx_cP, z_rc_cP, z_rs_cP, z_em_cP, z_mi_cP, z_kd_wI, z_ln_wI, z_gI_wI, z_gJ_wI, z_gP_wI, z_nx_wI, z_rc_wI, z_rs_wI, z_em_wI, z_mi_wI, z_kd_wJ, z_ln_wJ, z_gI_wJ, z_gJ_wJ, z_gP_wJ, z_nx_wJ, z_rc_wJ, z_rs_wJ, z_em_wJ, z_mi_wJ, a1, a2, a3, b1, hk.1, hk.2.1, show ¬ xs.length = ln_ h arr by omega, show xs.length < ln_ h arr by omega, show ¬ (2 : Nat) = 0 by decide, show (30 : Nat) ≤ 34 by decide, show (34 : Nat) ≤ 38 by decide, i_add, i_mul, i_sub, i_addn, i_lt, i_eq, i_idx, i_vp, true_and, and_true, false_and, and_false, if_true, if_false, Nat.reduceAdd, Nat.reduceMul, Nat.reduceSub, Nat.reduceEqDiff, Option.some.injEq, exists_eq_left', true_or, or_true, false_or, or_false, not_true_eq_false, not_false_eq_true, eq_self, and_self, Nat.reduceLeDiff, decide_true, decide_false, ne_eq, Nat.left_eq_add, Nat.add_eq_left, Nat.add_left_cancel_iff, Nat.add_zero]
      refine ⟨arr, ⟨a1, ?_, ?_, Or.inr ⟨b1, b2, b3, ?_, fun i hi => ?_⟩⟩, rfl, ((Fy.rfl'.sI (Or.inl ⟨rfl, Or.inl rfl⟩)).sP (Or.inr ⟨rfl, rfl⟩)).sI (Or.inl ⟨rfl, Or.inr rfl⟩)⟩
      · show gP_ (sP_ (sI_ h a 0 (gI_ h a 0 + Int32.ofNat 1)) arr xs.length (some x)) a 1 = some arr
        rw [z_gP_sP, if_neg (fun y => ne y.1)]
        exact a2
      · rw [z_gI_sI, if_pos ⟨rfl, rfl⟩, List.length_append]; rfl
      · rw [List.length_append, List.length_singleton]
        show xs.length + 1 ≤ ln_ h arr
        omega
      · rw [List.length_append, List.length_singleton] at hi
        show gP_ (sP_ (sI_ h a 0 (gI_ h a 0 + Int32.ofNat 1)) arr xs.length (some x)) arr i = _
        rw [z_gP_sP]
        by_cases h1 : i = xs.length
        · subst h1
          rw [if_pos ⟨rfl, rfl⟩, List.getElem_append_right (Nat.le_refl _)]
          simp only [Nat.sub_self, List.getElem_cons_zero]
        · rw [if_neg (fun y => h1 y.2), List.getElem_append_left (by omega)]
          exact b5 i (by omega)
  · have hfull : xs.length = ln_ h arr := by
      rcases a4 with ⟨b1, b2, b3, b4⟩ | ⟨b1, b2, b3, b4, b5⟩
      · rw [b1, b4]; rfl
      · rcases Nat.lt_or_ge xs.length (ln_ h arr) with y | y
        · exact absurd ⟨b1, y⟩ hroom
        · omega
    have h3038 : 30 ≤ kd_ h arr ∧ kd_ h arr ≤ 38 := by
      rcases a4 with ⟨b1, b2, b3, b4⟩ | ⟨b1, b2, b3, b4, b5⟩
      · omega
      · omega
    have G : Wp 216 0 [.ref a] [] (sI_ h a 0 (gI_ h a 0 + Int32.ofNat 1)) (fun v h' => v = .inl (.ref (nx_ h)) ∧ Al h' a (nx_ h) xs ∧ ln_ h' (nx_ h) = grw (ln_ h arr) ∧ nx_ h' = nx_ h + 1 ∧ Fa (fun b i => b = a ∧ i = 1) 1 (grw (ln_ h arr)) (sI_ h a 0 (gI_ h a 0 + Int32.ofNat 1)) h') := by
      rcases a4 with ⟨b1, b2, b3, b4⟩ | ⟨b1, b2, b3, b4, b5⟩
      · have eg : grw (ln_ h arr) = 10 := by rw [b4]; rfl
        rw [eg] at hs ⊢
        subst b1
        exact AL_grow_e hl1 ⟨b2, b3, b4⟩ ha ne hr hs
      · have eg : grw (ln_ h arr) = ln_ h arr + max 1 (ln_ h arr / 2) := by unfold grw; rw [if_neg (by omega)]
        rw [eg] at hs ⊢
        exact AL_grow hl1 hfull b1 hc hx ha har ne hr hs
    simp (disch := omega) only [U211_0, U211_1, U211_2, U211_5, U211_6, U211_7, U211_10, U211_11, U211_12, U211_13, U211_16, U211_17, U211_20, U211_23, U211_24, U212_0, U212_1, U212_2, U212_3, U212_6, U212_7, U212_10, U212_11, U212_12, U212_13, U212_14, U212_15, U212_16, U212_17, U212_18, U212_19, U212_22, V212, z_kd_sI, z_ln_sI, z_gI_sI, z_gJ_sI, z_gP_sI, z_nx_sI, z_rc_sI, z_rs_sI, z_em_sI, z_mi_sI, z_kd_sJ, z_ln_sJ, z_gI_sJ, z_gJ_sJ, z_gP_sJ, z_nx_sJ, z_rc_sJ, z_rs_sJ, z_em_sJ, z_mi_sJ, z_kd_sP, z_ln_sP, z_gI_sP, z_gJ_sP, z_gP_sP, z_nx_sP, z_rc_sP, z_rs_sP, z_em_sP, z_mi_sP, z_kd_nw, z_ln_nw, z_gI_nw, z_gJ_nw, z_gP_nw, z_nx_nw, z_rc_nw, z_rs_nw, z_em_nw, z_mi_nw, z_kd_cI, z_ln_cI, z_gI_cI, z_gJ_cI, z_gP_cI, z_nx_cI, z_rc_cI, z_rs_cI, z_em_cI, z_mi_cI, z_kd_cP, z_ln_cP, z_gI_cP, z_gJ_cP, z_gP_cP, z_nx_cP, z_rc_cP, z_rs_cP, z_em_cP, z_mi_cP, z_kd_wI, z_ln_wI, z_gI_wI, z_gJ_wI, z_gP_wI, z_nx_wI, z_rc_wI, z_rs_wI, z_em_wI, z_mi_wI, z_kd_wJ, z_ln_wJ, z_gI_wJ, z_gJ_wJ, z_gP_wJ, z_nx_wJ, z_rc_wJ, z_rs_wJ, z_em_wJ, z_mi_wJ, a1, a2, a3, hfull, h3038, show ¬ (2 : Nat) = 0 by decide, i_add, i_mul, i_sub, i_addn, i_lt, i_eq, i_idx, i_vp, true_and, and_true, false_and, and_false, if_true, if_false, Nat.reduceAdd, Nat.reduceMul, Nat.reduceSub, Nat.reduceEqDiff, Option.some.injEq, exists_eq_left', true_or, or_true, false_or, or_false, not_true_eq_false, not_false_eq_true, eq_self, and_self, Nat.reduceLeDiff, decide_true, decide_false, ne_eq, Nat.left_eq_add, Nat.add_eq_left, Nat.add_left_cancel_iff, Nat.add_zero]
    refine Wp_use G ?_
    rintro _ h1 ⟨rfl, hl2, e1, e2, f1⟩
    have hg10 : 1 ≤ grw (ln_ h arr) := by unfold grw; split <;> omega
    have k1 : kd_ h1 x = kd_ h x := f1.2.1 x hk.2.2
    have k2 : kd_ h1 (nx_ h) = 34 := by
      rcases hl2.2.2.2 with ⟨b1, b2, b3, b4⟩ | ⟨b1, b2, b3, b4, b5⟩
      · omega
      · exact b1
    have hlt : xs.length < grw (ln_ h arr) := by rw [hfull]; unfold grw; split <;> omega
    rw [← hfull]
    simp (disch := omega) only [V216, U211_0, U211_1, U211_2, U211_5, U211_6, U211_7, U211_10, U211_11, U211_12, U211_13, U211_16, U211_17, U211_20, U211_23, U211_24, U212_0, U212_1, U212_2, U212_3, U212_6, U212_7, U212_10, U212_11, U212_12, U212_13, U212_14, U212_15, U212_16, U212_17, U212_18, U212_19, U212_22, V212, z_kd_sI, z_ln_sI, z_gI_sI, z_gJ_sI, z_gP_sI, z_nx_sI, z_rc_sI, z_rs_sI, z_em_sI, z_mi_sI, z_kd_sJ, z_ln_sJ, z_gI_sJ, z_gJ_sJ, z_gP_sJ, z_nx_sJ, z_rc_sJ, z_rs_sJ, z_em_sJ, z_mi_sJ, z_kd_sP, z_ln_sP, z_gI_sP, z_gJ_sP, z_gP_sP, z_nx_sP, z_rc_sP, z_rs_sP, z_em_sP, z_mi_sP, z_kd_nw, z_ln_nw, z_gI_nw, z_gJ_nw, z_gP_nw, z_nx_nw, z_rc_nw, z_rs_nw, z_em_nw, z_mi_nw, z_kd_cI, z_ln_cI, z_gI_cI, z_gJ_cI, z_gP_cI, z_nx_cI, z_rc_cI, z_rs_cI, z_em_cI, z_mi_cI, z_kd_cP, z_ln_cP, z_gI_cP, z_gJ_cP, z_gP_cP, z_nx_cP, z_rc_cP, z_rs_cP, z_em_cP, z_mi_cP, z_kd_wI, z_ln_wI, z_gI_wI, z_gJ_wI, z_gP_wI, z_nx_wI, z_rc_wI, z_rs_wI, z_em_wI, z_mi_wI, z_kd_wJ, z_ln_wJ, z_gI_wJ, z_gJ_wJ, z_gP_wJ, z_nx_wJ, z_rc_wJ, z_rs_wJ, z_em_wJ, z_mi_wJ, hl2.1, k1, k2, e1, hk.1, hk.2.1, hlt, i_add, i_mul, i_sub, i_addn, i_lt, i_eq, i_idx, i_vp, true_and, and_true, false_and, and_false, if_true, if_false, Nat.reduceAdd, Nat.reduceMul, Nat.reduceSub, Nat.reduceEqDiff, Option.some.injEq, exists_eq_left', true_or, or_true, false_or, or_false, not_true_eq_false, not_false_eq_true, eq_self, and_self, Nat.reduceLeDiff, decide_true, decide_false, ne_eq, Nat.left_eq_add, Nat.add_eq_left, Nat.add_left_cancel_iff, Nat.add_zero]
    have T : Fa (fun b _ => b = a) (0 + 1) (0 + grw (ln_ h arr)) h h1 := (hmod.fa.mono (fun b i _ y => y.1) (Nat.le_refl _) (Nat.le_refl _)).trans (f1.mono (fun b i _ y => y.1) (Nat.le_refl _) (Nat.le_refl _))
    obtain ⟨t1, t2, t3, t4, t5, t6, t7, t8⟩ := T
    rcases hl2.2.2.2 with ⟨b1, b2, b3, b4⟩ | ⟨c1, c2, c3, c4, c5⟩
    · omega
    · refine ⟨nx_ h, ⟨hl2.1, ?_, ?_, Or.inr ⟨c1, c2, c3, ?_, fun i hi => ?_⟩⟩, Or.inr ⟨rfl, e2, by rw [e1, hfull], t1, t2, t3, by rw [hfull]; show rc_ h ≤ rc_ h1 + 1; omega, by rw [hfull]; show rs_ h ≤ rs_ h1 + _; omega, t6, t7, fun b i hb hn => ?_⟩⟩
      · show gP_ (sP_ h1 (nx_ h) xs.length (some x)) a 1 = _
        rw [z_gP_sP, if_neg (by omega)]
        exact hl2.2.1
      · rw [z_gI_sI, if_pos ⟨rfl, rfl⟩, List.length_append]; rfl
      · rw [List.length_append, List.length_singleton]
        show xs.length + 1 ≤ ln_ h1 (nx_ h)
        omega
      · rw [List.length_append, List.length_singleton] at hi
        show gP_ (sP_ h1 (nx_ h) xs.length (some x)) (nx_ h) i = _
        rw [z_gP_sP]
        by_cases h1 : i = xs.length
        · subst h1
          rw [if_pos ⟨rfl, rfl⟩, List.getElem_append_right (Nat.le_refl _)]
          simp only [Nat.sub_self, List.getElem_cons_zero]
        · rw [if_neg (fun y => h1 y.2), List.getElem_append_left (by omega)]
          exact c5 i (by omega)
      · obtain ⟨u1, u2, u3⟩ := t8 b i hb hn
        refine ⟨?_, u2, ?_⟩
        · rw [z_gI_sI, if_neg (fun y => hn y.1)]
          exact u1
        · show gP_ (sP_ h1 (nx_ h) xs.length (some x)) b i = _
          rw [z_gP_sP, if_neg (by omega), u3]
