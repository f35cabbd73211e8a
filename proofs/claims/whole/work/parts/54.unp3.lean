/-! ===== the unpacker: texts, slots, events ===== -/
theorem drop_take_len {fl r : List Nat} {p e : Nat} (he : e ≤ fl.length) (hp : p ≤ e) (h : (fl.take e).drop p = r) : r.length = e - p ∧ ∀ k, k < r.length → r.getD k 0 = fl.getD (p + k) 0 := by
  have hl : r.length = e - p := by rw [← h, List.length_drop, List.length_take]; omega
  refine ⟨hl, fun k hk => ?_⟩
  subst h
  rw [gD_in hk, List.getElem_drop, List.getElem_take, gD_in (by omega)]
theorem take_cut {r fl : List Nat} {p b : Nat} (hb : b ≤ r.length) (h : ∀ k, k < r.length → r.getD k 0 = fl.getD (p + k) 0) : r.take b = cut fl p b := by
  apply List.ext_getElem
  · rw [List.length_take, cut_len]; omega
  · intro i h1 h2
    rw [cut_len] at h2
    rw [← gD_in h1, ← gD_in (l := cut fl p b), cut_at h2, ← h i (by omega), gD_in h1, List.getElem_take, gD_in (by omega)]
def PT (h : MH_) (u fr e ev : Nat) (fl : List Nat) (as : List Arg) (res : Option (List Nat × List Nat)) : Rs_ → MH_ → Prop := fun v h' => v = .inl .null ∧ Fz (fun a i => SU u a i ∨ SE ev a i) h h' ∧ match res with
  | some (t, r) => Ea h' ev (as ++ [.inr t]) ∧ UO h' u fr e fl (some r)
  | none => (∃ as', Ea h' ev as' ∧ as'.length ≤ as.length + 1) ∧ UO h' u fr e fl none
theorem Unp_takeText {h : MH_} {u fr e ev : Nat} {fl : List Nat} {as : List Arg} {o : Option (List Nat)} (hu : UO h u fr e fl o) (he : Ea h ev as) (hl : as.length < 6) (ae : ev + 4 ≤ u ∨ u + 2 ≤ ev) (ar : fr + 2 ≤ ev ∨ ev + 4 ≤ fr) : Wp 109 0 [.ref u, .ref ev, .null] [] h (PT h u fr e ev fl as (o.bind rT)) := by
  have k11 : kd_ h u = 11 := by obtain ⟨p, hu, ho⟩ := hu; exact hu.1.1
  have aes : ∀ a i, SE ev a i → ¬ SU u a i := by unfold SE SU; intro a i h1 h2; omega
  have aes' : ∀ a i, SU u a i → ¬ SE ev a i := by unfold SE SU; intro a i h1 h2; omega
  have ars : ∀ a i, SR fr a i → ¬ SE ev a i := by unfold SE SR; intro a i h1 h2; omega
  simp (disch := omega) only [U109_0, U109_1, U109_4, U109_5, U109_6, U109_8, U109_11, U109_12, U109_13, U109_16, U109_17, U109_20, U109_21, U109_24, U109_25, U109_26, U109_29, U109_30, U109_31, U109_32, U109_35, U109_36, U109_39, U109_40, U109_43, U109_44, U109_45, U109_48, U109_49, U109_50, U109_53, k11, i_add, i_mul, i_sub, i_addn, i_lt, i_eq, i_idx, i_vp, true_and, and_true, false_and, and_false, if_true, if_false, Nat.reduceAdd, Nat.reduceMul, Nat.reduceSub, Nat.reduceEqDiff, Option.some.injEq, exists_eq_left', true_or, or_true, false_or, or_false, not_true_eq_false, not_false_eq_true, eq_self, and_self, Nat.reduceLeDiff, decide_true, decide_false, ne_eq, Nat.left_eq_add, Nat.add_eq_left, Nat.add_left_cancel_iff, Nat.add_zero]
  refine Wp_use (takeB' hu) ?_
  rintro v h1 ⟨b, o', rfl, hb, f1, hu1, z⟩
  have he1 := he.fz f1 aes
  have ex : o.bind rT = o'.bind (fun r => rT (b :: r)) := by
    rcases z with ⟨rfl, z2⟩ | ⟨rfl, rfl | rfl⟩
    · cases o' with
      | none => exact absurd rfl z2
      | some r => rfl
    · rfl
    · rfl
  rw [ex]
  have hu1' := hu1
  obtain ⟨p, hp, ho⟩ := hu1
  have q := hp.bad
  have hp' := hp
  obtain ⟨⟨a1, a2, a3, a4, a5⟩, ⟨b1, b2⟩, c1, c2, c3, c4⟩ := hp
  have hc := c3.2.2.2.2.1
  have hfl := c3.2.2.2.2.2.1
  by_cases hg : b ≤ 16 ∧ b ≤ e - p
  · simp (disch := omega) only [V106, U109_0, U109_1, U109_4, U109_5, U109_6, U109_8, U109_11, U109_12, U109_13, U109_16, U109_17, U109_20, U109_21, U109_24, U109_25, U109_26, U109_29, U109_30, U109_31, U109_32, U109_35, U109_36, U109_39, U109_40, U109_43, U109_44, U109_45, U109_48, U109_49, U109_50, U109_53, z_kd_sI, z_ln_sI, z_gI_sI, z_gJ_sI, z_gP_sI, z_nx_sI, z_rc_sI, z_rs_sI, z_em_sI, z_mi_sI, z_kd_sJ, z_ln_sJ, z_gI_sJ, z_gJ_sJ, z_gP_sJ, z_nx_sJ, z_rc_sJ, z_rs_sJ, z_em_sJ, z_mi_sJ, z_kd_sP, z_ln_sP, z_gI_sP, z_gJ_sP, z_gP_sP, z_nx_sP, z_rc_sP, z_rs_sP, z_em_sP, z_mi_sP, z_kd_nw, z_ln_nw, z_gI_nw, z_gJ_nw, z_gP_nw, z_nx_nw, z_rc_nw, z_rs_nw, z_em_nw, z_mi_nw, z_kd_cI, z_ln_cI, z_gI_cI, z_gJ_cI, z_gP_cI, z_nx_cI, z_rc_cI, z_rs_cI, z_em_cI, z_mi_cI, z_kd_cP, z_ln_cP, z_gI_cP, z_gJ_cP, z_gP_cP, z_nx_cP, z_rc_cP, z_rs_cP, z_em_cP, z_mi_cP, z_kd_wI, z_ln_wI, z_gI_wI, z_gJ_wI, z_gP_wI, z_nx_wI, z_rc_wI, z_rs_wI, z_em_wI, z_mi_wI, z_kd_wJ, z_ln_wJ, z_gI_wJ, z_gJ_wJ, z_gP_wJ, z_nx_wJ, z_rc_wJ, z_rs_wJ, z_em_wJ, z_mi_wJ, a1, a3, b1, b2, he1.1.1, show ¬ 16 < b by omega, show ¬ e - p < b by omega, i_add, i_mul, i_sub, i_addn, i_lt, i_eq, i_idx, i_vp, true_and, and_true, false_and, and_false, if_true, if_false, Nat.reduceAdd, Nat.reduceMul, Nat.reduceSub, Nat.reduceEqDiff, Option.some.injEq, exists_eq_left', true_or, or_true, false_or, or_false, not_true_eq_false, not_false_eq_true, eq_self, and_self, Nat.reduceLeDiff, decide_true, decide_false, ne_eq, Nat.left_eq_add, Nat.add_eq_left, Nat.add_left_cancel_iff, Nat.add_zero]
    refine Wp_use (Event_addText (p := p) (n := b) he1 c3 hl hg.1 (by omega) (by omega)) ?_
    rintro _ h2 ⟨rfl, he2, f2⟩
    have hp2 := hp'.fz f2 (by unfold SE; omega) (by unfold SE; omega) ars
    have f3 : Fz (SU u) h2 (sI_ h2 u 2 (Int32.ofNat (p + b))) := Fz.rfl'.sI ⟨rfl, Or.inl rfl⟩
    have u3 : Us (sI_ h2 u 2 (Int32.ofNat (p + b))) u fr (p + b) e fl := by
      obtain ⟨⟨a1, a2, a3, a4, a5⟩, ⟨b1, b2⟩, c1, c2, c3, c4⟩ := hp2
      refine ⟨⟨a1, a2, a3, a4, a5⟩, ⟨?_, ?_⟩, by omega, c2, c3.fz f3 (SU_R c4), c4⟩
      · rw [z_gI_sI, if_pos ⟨rfl, rfl⟩]
      · rw [z_gI_sI, if_neg (by omega), b2]
    have e6 : gI_ (sI_ h2 u 2 (Int32.ofNat (p + b))) u 6 = gI_ h1 u 6 := by rw [z_gI_sI, if_neg (by omega), f2.gI (by unfold SE; omega)]
    simp (disch := omega) only [V12, U109_0, U109_1, U109_4, U109_5, U109_6, U109_8, U109_11, U109_12, U109_13, U109_16, U109_17, U109_20, U109_21, U109_24, U109_25, U109_26, U109_29, U109_30, U109_31, U109_32, U109_35, U109_36, U109_39, U109_40, U109_43, U109_44, U109_45, U109_48, U109_49, U109_50, U109_53, z_kd_sI, z_ln_sI, z_gI_sI, z_gJ_sI, z_gP_sI, z_nx_sI, z_rc_sI, z_rs_sI, z_em_sI, z_mi_sI, z_kd_sJ, z_ln_sJ, z_gI_sJ, z_gJ_sJ, z_gP_sJ, z_nx_sJ, z_rc_sJ, z_rs_sJ, z_em_sJ, z_mi_sJ, z_kd_sP, z_ln_sP, z_gI_sP, z_gJ_sP, z_gP_sP, z_nx_sP, z_rc_sP, z_rs_sP, z_em_sP, z_mi_sP, z_kd_nw, z_ln_nw, z_gI_nw, z_gJ_nw, z_gP_nw, z_nx_nw, z_rc_nw, z_rs_nw, z_em_nw, z_mi_nw, z_kd_cI, z_ln_cI, z_gI_cI, z_gJ_cI, z_gP_cI, z_nx_cI, z_rc_cI, z_rs_cI, z_em_cI, z_mi_cI, z_kd_cP, z_ln_cP, z_gI_cP, z_gJ_cP, z_gP_cP, z_nx_cP, z_rc_cP, z_rs_cP, z_em_cP, z_mi_cP, z_kd_wI, z_ln_wI, z_gI_wI, z_gJ_wI, z_gP_wI, z_nx_wI, z_rc_wI, z_rs_wI, z_em_wI, z_mi_wI, z_kd_wJ, z_ln_wJ, z_gI_wJ, z_gJ_wJ, z_gP_wJ, z_nx_wJ, z_rc_wJ, z_rs_wJ, z_em_wJ, z_mi_wJ, hp2.1.1, hp2.2.1.1, i_add, i_mul, i_sub, i_addn, i_lt, i_eq, i_idx, i_vp, true_and, and_true, false_and, and_false, if_true, if_false, Nat.reduceAdd, Nat.reduceMul, Nat.reduceSub, Nat.reduceEqDiff, Option.some.injEq, exists_eq_left', true_or, or_true, false_or, or_false, not_true_eq_false, not_false_eq_true, eq_self, and_self, Nat.reduceLeDiff, decide_true, decide_false, ne_eq, Nat.left_eq_add, Nat.add_eq_left, Nat.add_left_cancel_iff, Nat.add_zero]
    have F : Fz (fun a i => SU u a i ∨ SE ev a i) h (sI_ h2 u 2 (Int32.ofNat (p + b))) := ((f1.mono (fun _ _ z => Or.inl z)).trans (f2.mono (fun _ _ z => Or.inr z))).trans (f3.mono (fun _ _ z => Or.inl z))
    have he3 := he2.fz f3 aes
    refine ⟨rfl, F, ?_⟩
    cases o' with
    | none => exact ⟨⟨_, he3, by rw [List.length_append]; exact Nat.le_refl _⟩, p + b, u3, e6.trans ho⟩
    | some r =>
      obtain ⟨d1, d2⟩ := drop_take_len c2 c1 ho.1
      rw [show (some r).bind (fun r => rT (b :: r)) = some (r.take b, r.drop b) by simp [rT, hg.1, d1, hg.2]]
      refine ⟨by rw [take_cut (by omega) d2]; exact he3, p + b, u3, ?_, e6.trans ho.2⟩
      rw [← ho.1, List.drop_drop]
  · have hx : o'.bind (fun r => rT (b :: r)) = none := by
      cases o' with
      | none => rfl
      | some r =>
        obtain ⟨d1, d2⟩ := drop_take_len c2 c1 ho.1
        simp only [Option.bind_some, rT, d1]
        rw [if_neg hg]
    rw [hx]
    have he3 := he1.fz q.2 aes
    have F : Fz (fun a i => SU u a i ∨ SE ev a i) h (sI_ h1 u 6 (Int32.ofNat 0)) := (f1.trans q.2).mono (fun _ _ z => Or.inl z)
    by_cases g1 : 16 < b
    · simp (disch := omega) only [V106, U109_0, U109_1, U109_4, U109_5, U109_6, U109_8, U109_11, U109_12, U109_13, U109_16, U109_17, U109_20, U109_21, U109_24, U109_25, U109_26, U109_29, U109_30, U109_31, U109_32, U109_35, U109_36, U109_39, U109_40, U109_43, U109_44, U109_45, U109_48, U109_49, U109_50, U109_53, z_kd_sI, z_ln_sI, z_gI_sI, z_gJ_sI, z_gP_sI, z_nx_sI, z_rc_sI, z_rs_sI, z_em_sI, z_mi_sI, z_kd_sJ, z_ln_sJ, z_gI_sJ, z_gJ_sJ, z_gP_sJ, z_nx_sJ, z_rc_sJ, z_rs_sJ, z_em_sJ, z_mi_sJ, z_kd_sP, z_ln_sP, z_gI_sP, z_gJ_sP, z_gP_sP, z_nx_sP, z_rc_sP, z_rs_sP, z_em_sP, z_mi_sP, z_kd_nw, z_ln_nw, z_gI_nw, z_gJ_nw, z_gP_nw, z_nx_nw, z_rc_nw, z_rs_nw, z_em_nw, z_mi_nw, z_kd_cI, z_ln_cI, z_gI_cI, z_gJ_cI, z_gP_cI, z_nx_cI, z_rc_cI, z_rs_cI, z_em_cI, z_mi_cI, z_kd_cP, z_ln_cP, z_gI_cP, z_gJ_cP, z_gP_cP, z_nx_cP, z_rc_cP, z_rs_cP, z_em_cP, z_mi_cP, z_kd_wI, z_ln_wI, z_gI_wI, z_gJ_wI, z_gP_wI, z_nx_wI, z_rc_wI, z_rs_wI, z_em_wI, z_mi_wI, z_kd_wJ, z_ln_wJ, z_gI_wJ, z_gJ_wJ, z_gP_wJ, z_nx_wJ, z_rc_wJ, z_rs_wJ, z_em_wJ, z_mi_wJ, a1, a3, b1, b2, g1, i_add, i_mul, i_sub, i_addn, i_lt, i_eq, i_idx, i_vp, true_and, and_true, false_and, and_false, if_true, if_false, Nat.reduceAdd, Nat.reduceMul, Nat.reduceSub, Nat.reduceEqDiff, Option.some.injEq, exists_eq_left', true_or, or_true, false_or, or_false, not_true_eq_false, not_false_eq_true, eq_self, and_self, Nat.reduceLeDiff, decide_true, decide_false, ne_eq, Nat.left_eq_add, Nat.add_eq_left, Nat.add_left_cancel_iff, Nat.add_zero]
      exact ⟨rfl, F, ⟨as, he3, by omega⟩, q.1⟩
    · simp (disch := omega) only [V106, U109_0, U109_1, U109_4, U109_5, U109_6, U109_8, U109_11, U109_12, U109_13, U109_16, U109_17, U109_20, U109_21, U109_24, U109_25, U109_26, U109_29, U109_30, U109_31, U109_32, U109_35, U109_36, U109_39, U109_40, U109_43, U109_44, U109_45, U109_48, U109_49, U109_50, U109_53, z_kd_sI, z_ln_sI, z_gI_sI, z_gJ_sI, z_gP_sI, z_nx_sI, z_rc_sI, z_rs_sI, z_em_sI, z_mi_sI, z_kd_sJ, z_ln_sJ, z_gI_sJ, z_gJ_sJ, z_gP_sJ, z_nx_sJ, z_rc_sJ, z_rs_sJ, z_em_sJ, z_mi_sJ, z_kd_sP, z_ln_sP, z_gI_sP, z_gJ_sP, z_gP_sP, z_nx_sP, z_rc_sP, z_rs_sP, z_em_sP, z_mi_sP, z_kd_nw, z_ln_nw, z_gI_nw, z_gJ_nw, z_gP_nw, z_nx_nw, z_rc_nw, z_rs_nw, z_em_nw, z_mi_nw, z_kd_cI, z_ln_cI, z_gI_cI, z_gJ_cI, z_gP_cI, z_nx_cI, z_rc_cI, z_rs_cI, z_em_cI, z_mi_cI, z_kd_cP, z_ln_cP, z_gI_cP, z_gJ_cP, z_gP_cP, z_nx_cP, z_rc_cP, z_rs_cP, z_em_cP, z_mi_cP, z_kd_wI, z_ln_wI, z_gI_wI, z_gJ_wI, z_gP_wI, z_nx_wI, z_rc_wI, z_rs_wI, z_em_wI, z_mi_wI, z_kd_wJ, z_ln_wJ, z_gI_wJ, z_gJ_wJ, z_gP_wJ, z_nx_wJ, z_rc_wJ, z_rs_wJ, z_em_wJ, z_mi_wJ, a1, a3, b1, b2, g1, show e - p < b by omega, i_add, i_mul, i_sub, i_addn, i_lt, i_eq, i_idx, i_vp, true_and, and_true, false_and, and_false, if_true, if_false, Nat.reduceAdd, Nat.reduceMul, Nat.reduceSub, Nat.reduceEqDiff, Option.some.injEq, exists_eq_left', true_or, or_true, false_or, or_false, not_true_eq_false, not_false_eq_true, eq_self, and_self, Nat.reduceLeDiff, decide_true, decide_false, ne_eq, Nat.left_eq_add, Nat.add_eq_left, Nat.add_left_cancel_iff, Nat.add_zero]
      exact ⟨rfl, F, ⟨as, he3, by omega⟩, q.1⟩
