/-! ===== Block, as it stands ===== -/
def Bk (h : MH_) (b w o : Nat) (ft lt : Int64) (ev : List Nat) (la : Nat → Int32) : Prop := Bs h b ∧ Rw h (b + 1) 238 ev ∧ gI_ h b 0 = Int32.ofNat w ∧ gI_ h b 3 = Int32.ofNat o ∧ gJ_ h b 4 = ft ∧ gJ_ h b 5 = lt ∧ ∀ i, i < 240 → gI_ h (b + 3) i = la i
/-- what a block's methods may change -/
def SB (b : Nat) : Nat → Nat → Prop := fun a i => (a = b ∧ (i = 3 ∨ i = 4 ∨ i = 5)) ∨ SR (b + 1) a i ∨ a = b + 3
theorem Bk.fz {S : Nat → Nat → Prop} {h h' : MH_} {b w o : Nat} {ft lt : Int64} {ev : List Nat} {la : Nat → Int32} (hb : Bk h b w o ft lt ev la) (z : Fz S h h') (h0 : ¬ S b 0) (hs : ∀ a i, SB b a i → ¬ S a i) : Bk h' b w o ft lt ev la := by
  obtain ⟨a1, a2, a3, a4, a5, a6, a7⟩ := hb
  exact ⟨a1.fz z, a2.fz z (fun a i y => hs a i (Or.inr (Or.inl y))), by rw [z.gI h0, a3], by rw [z.gI (hs _ _ (Or.inl ⟨rfl, Or.inl rfl⟩)), a4], by rw [z.gJ (hs _ _ (Or.inl ⟨rfl, Or.inr (Or.inl rfl)⟩)), a5], by rw [z.gJ (hs _ _ (Or.inl ⟨rfl, Or.inr (Or.inr rfl)⟩)), a6], fun i hi => by rw [z.gI (hs _ _ (Or.inr (Or.inr rfl))), a7 i hi]⟩
/-- the last numbers behind an event of a site -/
def laU (la : Nat → Int32) (s : Nat) (as : List Arg) : Nat → Int32 := fun i => if s * 6 ≤ i ∧ i < s * 6 + as.length then numA as (i - s * 6) else la i
theorem Block_append {h : MH_} {b e r c w o s v : Nat} {ft lt t : Int64} {ev pk : List Nat} {la : Nat → Int32} {as : List Arg} (hb : Bk h b w o ft lt ev la) (he : Ea h e as) (hw : Ew h e v s t) (hr : Rw h r c pk) (hs : s < 40) (hl : ev.length + pk.length ≤ 238) (ae : b + 4 ≤ e ∨ e + 4 ≤ b) (ar : b + 4 ≤ r ∨ r + 2 ≤ b) : Wp 1 0 [.ref b, .ref e, .ref r] [] h (fun x h' => x = .inl .null ∧ Bk h' b w o (if ev = [] then t else ft) t (ev ++ pk) (laU la s as) ∧ Fz (SB b) h h') := by
  obtain ⟨hbs, hev, h0, h3, h4, h5, hla⟩ := hb
  have hel := hev.2.2.2.2.2.1
  have fin : ∀ u, Fz (fun a i => a = b ∧ (i = 4 ∨ i = 5)) h u → gJ_ u b 4 = (if ev = [] then t else ft) → gJ_ u b 5 = t → Wp 1 26 [.ref b, .ref e, .ref r] [] u (fun x h' => x = .inl .null ∧ Bk h' b w o (if ev = [] then t else ft) t (ev ++ pk) (laU la s as) ∧ Fz (SB b) h h') := by
    intro u z g4 g5
    have hb1 := hbs.fz z
    have he1 : Ea u e as := he.fz z (by unfold SE; intro a i y1 y2; omega)
    have ho1 : gI_ u e 5 = Int32.ofNat s := by rw [z.gI (by omega)]; exact hw.2.1
    simp (disch := omega) only [U1_0, U1_1, U1_4, U1_7, U1_10, U1_11, U1_12, U1_15, U1_18, U1_19, U1_20, U1_23, U1_26, U1_27, U1_28, U1_31, U1_34, U1_35, U1_38, U1_39, U1_42, hb1.1, hb1.2.2.1, he1.1.1, true_and, and_true, false_and, and_false, if_true, if_false, Nat.reduceAdd, Nat.reduceMul, Nat.reduceSub, Nat.reduceEqDiff, Option.some.injEq, exists_eq_left', true_or, or_true, false_or, or_false, not_true_eq_false, not_false_eq_true, eq_self, and_self, Nat.reduceLeDiff, decide_true, decide_false, ne_eq, Nat.left_eq_add, Nat.add_eq_left, Nat.add_left_cancel_iff, Nat.add_zero]
    refine Wp_use (Event_rememberIn (x := Int32.ofNat 0) he1 ho1 hb1.2.2.2.1 hb1.2.2.2.2 hs (by omega)) ?_
    rintro _ h1 ⟨rfl, e1, f1⟩
    have z1 := (z.mono (T := SB b) (fun a i y => Or.inl ⟨y.1, Or.inr y.2⟩)).trans (f1.mono (fun a i y => Or.inr (Or.inr y)))
    have hb2 := hbs.fz z1
    have ev1 : Rw h1 (b + 1) 238 ev := (hev.fz z (by unfold SR; intro a i y1 y2; omega)).fz f1 (by unfold SR; intro a i y1 y2; omega)
    have r1 : Rw h1 r c pk := (hr.fz z (by unfold SR; intro a i y1 y2; omega)).fz f1 (by unfold SR; intro a i y1 y2; omega)
    simp (disch := omega) only [V23, U1_0, U1_1, U1_4, U1_7, U1_10, U1_11, U1_12, U1_15, U1_18, U1_19, U1_20, U1_23, U1_26, U1_27, U1_28, U1_31, U1_34, U1_35, U1_38, U1_39, U1_42, hb2.1, hb2.2.1, ev1.1, true_and, and_true, false_and, and_false, if_true, if_false, Nat.reduceAdd, Nat.reduceMul, Nat.reduceSub, Nat.reduceEqDiff, Option.some.injEq, exists_eq_left', true_or, or_true, false_or, or_false, not_true_eq_false, not_false_eq_true, eq_self, and_self, Nat.reduceLeDiff, decide_true, decide_false, ne_eq, Nat.left_eq_add, Nat.add_eq_left, Nat.add_left_cancel_iff, Nat.add_zero]
    refine Wp_use (Row_putRow ev1 r1 hl (by omega)) ?_
    rintro _ h2 ⟨rfl, ev2, f2⟩
    simp (disch := omega) only [V95, U1_0, U1_1, U1_4, U1_7, U1_10, U1_11, U1_12, U1_15, U1_18, U1_19, U1_20, U1_23, U1_26, U1_27, U1_28, U1_31, U1_34, U1_35, U1_38, U1_39, U1_42, true_and, and_true, false_and, and_false, if_true, if_false, Nat.reduceAdd, Nat.reduceMul, Nat.reduceSub, Nat.reduceEqDiff, Option.some.injEq, exists_eq_left', true_or, or_true, false_or, or_false, not_true_eq_false, not_false_eq_true, eq_self, and_self, Nat.reduceLeDiff, decide_true, decide_false, ne_eq, Nat.left_eq_add, Nat.add_eq_left, Nat.add_left_cancel_iff, Nat.add_zero]
    refine ⟨⟨hb2.fz f2, ev2, ?_, ?_, ?_, ?_, fun i hi => ?_⟩, z1.trans (f2.mono (fun a i y => Or.inr (Or.inl y)))⟩
    · rw [f2.gI (by unfold SR; omega), f1.gI (by omega), z.gI (by omega), h0]
    · rw [f2.gI (by unfold SR; omega), f1.gI (by omega), z.gI (by omega), h3]
    · rw [f2.gJ (by unfold SR; omega), f1.gJ (by omega), g4]
    · rw [f2.gJ (by unfold SR; omega), f1.gJ (by omega), g5]
    · rw [f2.gI (by unfold SR; omega), e1 i, z.gI (by omega), hla i hi]
      rfl
  by_cases hn : ev = []
  · have hn0 : ev.length = 0 := by rw [hn]; rfl
    simp (disch := omega) only [U1_0, U1_1, U1_4, U1_7, U1_10, U1_11, U1_12, U1_15, U1_18, U1_19, U1_20, U1_23, U24_0, U24_1, U24_4, V24, Row_held hev, V89, z_kd_sI, z_ln_sI, z_gI_sI, z_gJ_sI, z_gP_sI, z_nx_sI, z_rc_sI, z_rs_sI, z_em_sI, z_mi_sI, z_kd_sJ, z_ln_sJ, z_gI_sJ, z_gJ_sJ, z_gP_sJ, z_nx_sJ, z_rc_sJ, z_rs_sJ, z_em_sJ, z_mi_sJ, z_kd_sP, z_ln_sP, z_gI_sP, z_gJ_sP, z_gP_sP, z_nx_sP, z_rc_sP, z_rs_sP, z_em_sP, z_mi_sP, z_kd_nw, z_ln_nw, z_gI_nw, z_gJ_nw, z_gP_nw, z_nx_nw, z_rc_nw, z_rs_nw, z_em_nw, z_mi_nw, z_kd_cI, z_ln_cI, z_gI_cI, z_gJ_cI, z_gP_cI, z_nx_cI, z_rc_cI, z_rs_cI, z_em_cI, z_mi_cI, z_kd_cP, z_ln_cP, z_gI_cP, z_gJ_cP, z_gP_cP, z_nx_cP, z_rc_cP, z_rs_cP, z_em_cP, z_mi_cP, z_kd_wI, z_ln_wI, z_gI_wI, z_gJ_wI, z_gP_wI, z_nx_wI, z_rc_wI, z_rs_wI, z_em_wI, z_mi_wI, z_kd_wJ, z_ln_wJ, z_gI_wJ, z_gJ_wJ, z_gP_wJ, z_nx_wJ, z_rc_wJ, z_rs_wJ, z_em_wJ, z_mi_wJ, hbs.1, hbs.2.1, hev.1, he.1.1, hw.2.2, hn0, i_add, i_mul, i_sub, i_addn, i_lt, i_eq, i_idx, i_vp, true_and, and_true, false_and, and_false, if_true, if_false, Nat.reduceAdd, Nat.reduceMul, Nat.reduceSub, Nat.reduceEqDiff, Option.some.injEq, exists_eq_left', true_or, or_true, false_or, or_false, not_true_eq_false, not_false_eq_true, eq_self, and_self, Nat.reduceLeDiff, decide_true, decide_false, ne_eq, Nat.left_eq_add, Nat.add_eq_left, Nat.add_left_cancel_iff, Nat.add_zero]
    refine fin _ ((Fz.rfl'.sJ ⟨rfl, Or.inl rfl⟩).sJ ⟨rfl, Or.inr rfl⟩) ?_ ?_
    · rw [z_gJ_sJ, if_neg (by omega), z_gJ_sJ, if_pos ⟨rfl, rfl⟩, if_pos hn]
    · rw [z_gJ_sJ, if_pos ⟨rfl, rfl⟩]
  · have hn0 : ¬ ev.length = 0 := fun z => hn (List.eq_nil_of_length_eq_zero z)
    simp (disch := omega) only [U1_0, U1_1, U1_4, U1_7, U1_18, U1_19, U1_20, U1_23, U24_0, U24_1, U24_4, V24, Row_held hev, V89, z_kd_sI, z_ln_sI, z_gI_sI, z_gJ_sI, z_gP_sI, z_nx_sI, z_rc_sI, z_rs_sI, z_em_sI, z_mi_sI, z_kd_sJ, z_ln_sJ, z_gI_sJ, z_gJ_sJ, z_gP_sJ, z_nx_sJ, z_rc_sJ, z_rs_sJ, z_em_sJ, z_mi_sJ, z_kd_sP, z_ln_sP, z_gI_sP, z_gJ_sP, z_gP_sP, z_nx_sP, z_rc_sP, z_rs_sP, z_em_sP, z_mi_sP, z_kd_nw, z_ln_nw, z_gI_nw, z_gJ_nw, z_gP_nw, z_nx_nw, z_rc_nw, z_rs_nw, z_em_nw, z_mi_nw, z_kd_cI, z_ln_cI, z_gI_cI, z_gJ_cI, z_gP_cI, z_nx_cI, z_rc_cI, z_rs_cI, z_em_cI, z_mi_cI, z_kd_cP, z_ln_cP, z_gI_cP, z_gJ_cP, z_gP_cP, z_nx_cP, z_rc_cP, z_rs_cP, z_em_cP, z_mi_cP, z_kd_wI, z_ln_wI, z_gI_wI, z_gJ_wI, z_gP_wI, z_nx_wI, z_rc_wI, z_rs_wI, z_em_wI, z_mi_wI, z_kd_wJ, z_ln_wJ, z_gI_wJ, z_gJ_wJ, z_gP_wJ, z_nx_wJ, z_rc_wJ, z_rs_wJ, z_em_wJ, z_mi_wJ, hbs.1, hbs.2.1, hev.1, he.1.1, hw.2.2, hn0, i_add, i_mul, i_sub, i_addn, i_lt, i_eq, i_idx, i_vp, true_and, and_true, false_and, and_false, if_true, if_false, Nat.reduceAdd, Nat.reduceMul, Nat.reduceSub, Nat.reduceEqDiff, Option.some.injEq, exists_eq_left', true_or, or_true, false_or, or_false, not_true_eq_false, not_false_eq_true, eq_self, and_self, Nat.reduceLeDiff, decide_true, decide_false, ne_eq, Nat.left_eq_add, Nat.add_eq_left, Nat.add_left_cancel_iff, Nat.add_zero]
    refine fin _ (Fz.rfl'.sJ ⟨rfl, Or.inr rfl⟩) ?_ ?_
    · rw [z_gJ_sJ, if_neg (by omega), h4, if_neg hn]
    · rw [z_gJ_sJ, if_pos ⟨rfl, rfl⟩]
theorem Block_beginFile {h : MH_} {b w o : Nat} {ft lt : Int64} {ev : List Nat} {la : Nat → Int32} (hb : Bk h b w o ft lt ev la) : Wp 3 0 [.ref b] [] h (fun x h' => x = .inl .null ∧ Bk h' b w 0 ft (Int64.ofNat 0) [] (fun _ => Int32.ofNat 0) ∧ Fz (SB b) h h') := by
  obtain ⟨hbs, hev, h0, h3, h4, h5, hla⟩ := hb
  simp (disch := omega) only [U3_0, U3_1, U3_2, U3_5, U3_6, U3_7, U3_10, U3_11, U3_14, z_kd_sI, z_ln_sI, z_gI_sI, z_gJ_sI, z_gP_sI, z_nx_sI, z_rc_sI, z_rs_sI, z_em_sI, z_mi_sI, z_kd_sJ, z_ln_sJ, z_gI_sJ, z_gJ_sJ, z_gP_sJ, z_nx_sJ, z_rc_sJ, z_rs_sJ, z_em_sJ, z_mi_sJ, z_kd_sP, z_ln_sP, z_gI_sP, z_gJ_sP, z_gP_sP, z_nx_sP, z_rc_sP, z_rs_sP, z_em_sP, z_mi_sP, z_kd_nw, z_ln_nw, z_gI_nw, z_gJ_nw, z_gP_nw, z_nx_nw, z_rc_nw, z_rs_nw, z_em_nw, z_mi_nw, z_kd_cI, z_ln_cI, z_gI_cI, z_gJ_cI, z_gP_cI, z_nx_cI, z_rc_cI, z_rs_cI, z_em_cI, z_mi_cI, z_kd_cP, z_ln_cP, z_gI_cP, z_gJ_cP, z_gP_cP, z_nx_cP, z_rc_cP, z_rs_cP, z_em_cP, z_mi_cP, z_kd_wI, z_ln_wI, z_gI_wI, z_gJ_wI, z_gP_wI, z_nx_wI, z_rc_wI, z_rs_wI, z_em_wI, z_mi_wI, z_kd_wJ, z_ln_wJ, z_gI_wJ, z_gJ_wJ, z_gP_wJ, z_nx_wJ, z_rc_wJ, z_rs_wJ, z_em_wJ, z_mi_wJ, hbs.1, i_add, i_mul, i_sub, i_addn, i_lt, i_eq, i_idx, i_vp, true_and, and_true, false_and, and_false, if_true, if_false, Nat.reduceAdd, Nat.reduceMul, Nat.reduceSub, Nat.reduceEqDiff, Option.some.injEq, exists_eq_left', true_or, or_true, false_or, or_false, not_true_eq_false, not_false_eq_true, eq_self, and_self, Nat.reduceLeDiff, decide_true, decide_false, ne_eq, Nat.left_eq_add, Nat.add_eq_left, Nat.add_left_cancel_iff, Nat.add_zero]
  have z : Fz (fun a i => a = b ∧ (i = 3 ∨ i = 5)) h (sJ_ (sI_ h b 3 (Int32.ofNat 0)) b 5 (Int64.ofNat 0)) := (Fz.rfl'.sI ⟨rfl, Or.inl rfl⟩).sJ ⟨rfl, Or.inr rfl⟩
  refine Wp_use (Block_beginBlock (hbs.fz z) (hev.fz z (by unfold SR; intro a i y1 y2; omega))) ?_
  rintro _ h2 ⟨rfl, c1, c2, f2⟩
  simp (disch := omega) only [V2, U3_0, U3_1, U3_2, U3_5, U3_6, U3_7, U3_10, U3_11, U3_14, true_and, and_true, false_and, and_false, if_true, if_false, Nat.reduceAdd, Nat.reduceMul, Nat.reduceSub, Nat.reduceEqDiff, Option.some.injEq, exists_eq_left', true_or, or_true, false_or, or_false, not_true_eq_false, not_false_eq_true, eq_self, and_self, Nat.reduceLeDiff, decide_true, decide_false, ne_eq, Nat.left_eq_add, Nat.add_eq_left, Nat.add_left_cancel_iff, Nat.add_zero]
  refine ⟨⟨(hbs.fz z).fz f2, c1, ?_, ?_, ?_, ?_, c2⟩, (z.mono (fun a i y => Or.inl ⟨y.1, by omega⟩)).trans (f2.mono (fun a i y => Or.inr y))⟩
  · rw [f2.gI (by unfold SR; omega), z.gI (by omega), h0]
  · rw [f2.gI (by unfold SR; omega), z_gI_sJ, z_gI_sI, if_pos ⟨rfl, rfl⟩]
  · rw [f2.gJ (by unfold SR; omega), z.gJ (by omega), h4]
  · rw [f2.gJ (by unfold SR; omega), z_gJ_sJ, if_pos ⟨rfl, rfl⟩]
