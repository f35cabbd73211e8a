/-! ===== the unpacker: VARs, numbers, texts ===== -/
theorem var_or {a b k : Nat} (hk : k < 9) (ha : a < 2 ^ (7 * k)) (hb : b < 256) : Int64.ofNat a ||| ((Int32.ofNat b &&& Int32.ofNat 127).toInt64 <<< ((Int32.ofNat (7 * k)).toInt64 &&& 63)) = Int64.ofNat (a + b % 128 * 2 ^ (7 * k)) := by
  have e1 : Int32.ofNat b &&& Int32.ofNat 127 = Int32.ofNat (b % 128) := by
    have e : ∀ m : Fin 256, Int32.ofNat m.val &&& Int32.ofNat 127 = Int32.ofNat (m.val % 128) := by decide +kernel
    exact e ⟨b, hb⟩
  have h1 : 2 ^ (7 * (k + 1)) ≤ 2 ^ 63 := Nat.pow_le_pow_right (by decide) (by omega)
  have hp : 2 ^ (7 * (k + 1)) = 128 * 2 ^ (7 * k) := by rw [show 7 * (k + 1) = 7 * k + 7 by omega, Nat.pow_add, Nat.mul_comm]
  rw [e1]
  have hc : b % 128 < 128 := Nat.mod_lt _ (by decide)
  generalize b % 128 = c at hc
  have h2 : c * 2 ^ (7 * k) ≤ 127 * 2 ^ (7 * k) := Nat.mul_le_mul_right _ (by omega)
  apply bvJ_inj
  show (Int64.ofNat a ||| _).toBitVec.toNat = _
  rw [Int64.toBitVec_or, BitVec.toNat_or]
  show bvJ (Int64.ofNat a) ||| bvJ (_ <<< _) = _
  rw [bvJ_shl _ (by omega), i64 (by omega), bvJ_of, bvJ_of, bvJ_of, Nat.mod_eq_of_lt (a := a) (by omega), Nat.mod_eq_of_lt (a := c) (by omega), Nat.mod_eq_of_lt (a := c * 2 ^ (7 * k)) (by omega), Nat.mod_eq_of_lt (a := a + c * 2 ^ (7 * k)) (by omega), Nat.or_comm, or_add ha]
  omega
def PV (h : MH_) (u fr e : Nat) (fl : List Nat) (res : Option (Nat × List Nat)) : Rs_ → MH_ → Prop := fun v h' => Fz (SU u) h h' ∧ match res with
  | some (x, r) => v = .inl (.long (Int64.ofNat x)) ∧ UO h' u fr e fl (some r)
  | none => (∃ x, v = .inl (.long x)) ∧ UO h' u fr e fl none
theorem PV.tr {h h1 : MH_} {u fr e : Nat} {fl : List Nat} {res : Option (Nat × List Nat)} (f : Fz (SU u) h h1) : ∀ v h', PV h1 u fr e fl res v h' → PV h u fr e fl res v h' := fun _ _ z => ⟨f.trans z.1, z.2⟩
theorem Unp_takeVar {h : MH_} {u fr e : Nat} {fl : List Nat} {o : Option (List Nat)} (hu : UO h u fr e fl o) : Wp 110 0 [.ref u, .null, .null, .null, .null] [] h (PV h u fr e fl (o.bind (rV 9 0 0))) := by
  have key : ∀ n k a x o y h, k + n = 9 → UO h u fr e fl o → (o ≠ none → x = Int64.ofNat a ∧ a < 2 ^ (7 * k)) → Wp 110 4 [.ref u, .long x, .null, .int (Int32.ofNat k), y] [] h (PV h u fr e fl (o.bind (rV n k a))) := by
    intro n
    induction n with
    | zero =>
      intro k a x o y h hk hu ha
      obtain ⟨p, hu, ho⟩ := hu
      have q := hu.bad
      rw [U110_4]
      simp (disch := omega) only [U110_0, U110_1, U110_2, U110_3, U110_5, U110_7, U110_10, U110_11, U110_14, U110_16, U110_17, U110_19, U110_21, U110_22, U110_23, U110_25, U110_26, U110_27, U110_28, U110_29, U110_30, U110_32, U110_35, U110_38, U110_39, U110_40, U110_43, U110_46, U110_48, U110_51, U110_52, U110_55, U110_56, U110_59, U110_60, U110_63, U110_64, U110_65, U110_68, U110_71, U110_72, U110_73, U110_76, U110_77, z_kd_sI, z_ln_sI, z_gI_sI, z_gJ_sI, z_gP_sI, z_nx_sI, z_rc_sI, z_rs_sI, z_em_sI, z_mi_sI, z_kd_sJ, z_ln_sJ, z_gI_sJ, z_gJ_sJ, z_gP_sJ, z_nx_sJ, z_rc_sJ, z_rs_sJ, z_em_sJ, z_mi_sJ, z_kd_sP, z_ln_sP, z_gI_sP, z_gJ_sP, z_gP_sP, z_nx_sP, z_rc_sP, z_rs_sP, z_em_sP, z_mi_sP, z_kd_nw, z_ln_nw, z_gI_nw, z_gJ_nw, z_gP_nw, z_nx_nw, z_rc_nw, z_rs_nw, z_em_nw, z_mi_nw, z_kd_cI, z_ln_cI, z_gI_cI, z_gJ_cI, z_gP_cI, z_nx_cI, z_rc_cI, z_rs_cI, z_em_cI, z_mi_cI, z_kd_cP, z_ln_cP, z_gI_cP, z_gJ_cP, z_gP_cP, z_nx_cP, z_rc_cP, z_rs_cP, z_em_cP, z_mi_cP, z_kd_wI, z_ln_wI, z_gI_wI, z_gJ_wI, z_gP_wI, z_nx_wI, z_rc_wI, z_rs_wI, z_em_wI, z_mi_wI, z_kd_wJ, z_ln_wJ, z_gI_wJ, z_gJ_wJ, z_gP_wJ, z_nx_wJ, z_rc_wJ, z_rs_wJ, z_em_wJ, z_mi_wJ, hu.1.1, show ¬ k < 9 by omega, i_add, i_mul, i_sub, i_addn, i_lt, i_eq, i_idx, i_vp, true_and, and_true, false_and, and_false, if_true, if_false, Nat.reduceAdd, Nat.reduceMul, Nat.reduceSub, Nat.reduceEqDiff, Option.some.injEq, exists_eq_left', true_or, or_true, false_or, or_false, not_true_eq_false, not_false_eq_true, eq_self, and_self, Nat.reduceLeDiff, decide_true, decide_false, ne_eq, Nat.left_eq_add, Nat.add_eq_left, Nat.add_left_cancel_iff, Nat.add_zero]
      rw [show o.bind (rV 0 k a) = none by cases o <;> rfl]
      exact ⟨q.2, ⟨_, rfl⟩, q.1⟩
    | succ n ih =>
      intro k a x o y h hk hu ha
      have k11 : kd_ h u = 11 := by obtain ⟨p, hu, ho⟩ := hu; exact hu.1.1
      rw [U110_4]
      simp (disch := omega) only [U110_0, U110_1, U110_2, U110_3, U110_5, U110_7, U110_10, U110_11, U110_14, U110_16, U110_17, U110_19, U110_21, U110_22, U110_23, U110_25, U110_26, U110_27, U110_28, U110_29, U110_30, U110_32, U110_35, U110_38, U110_39, U110_40, U110_43, U110_46, U110_48, U110_51, U110_52, U110_55, U110_56, U110_59, U110_60, U110_63, U110_64, U110_65, U110_68, U110_71, U110_72, U110_73, U110_76, U110_77, k11, show k < 9 by omega, i_add, i_mul, i_sub, i_addn, i_lt, i_eq, i_idx, i_vp, true_and, and_true, false_and, and_false, if_true, if_false, Nat.reduceAdd, Nat.reduceMul, Nat.reduceSub, Nat.reduceEqDiff, Option.some.injEq, exists_eq_left', true_or, or_true, false_or, or_false, not_true_eq_false, not_false_eq_true, eq_self, and_self, Nat.reduceLeDiff, decide_true, decide_false, ne_eq, Nat.left_eq_add, Nat.add_eq_left, Nat.add_left_cancel_iff, Nat.add_zero]
      refine Wp_use (takeB hu) ?_
      rintro v h1 ⟨f1, z⟩
      cases hob : ob o with
      | none =>
        rw [hob] at z
        obtain ⟨⟨b, hb, rfl⟩, hu1⟩ := z
        have e0 : ∀ m k' a', o.bind (rV (m + 1) k' a') = none := by
          intro m k' a'
          cases o with
          | none => rfl
          | some r => cases r with
            | nil => rfl
            | cons b r => cases hob
        rw [e0]
        have k11' : kd_ h1 u = 11 := by rw [f1.kd, k11]
        have w1 : gI_ h1 u 6 = Int32.ofNat 0 := by obtain ⟨p, hu, ho⟩ := hu1; exact ho
        by_cases h128 : b < 128
        · obtain ⟨p, hp, ho⟩ := hu1
          have q := hp.bad
          simp (disch := omega) only [V106, U110_0, U110_1, U110_2, U110_3, U110_5, U110_7, U110_10, U110_11, U110_14, U110_16, U110_17, U110_19, U110_21, U110_22, U110_23, U110_25, U110_26, U110_27, U110_28, U110_29, U110_30, U110_32, U110_35, U110_38, U110_39, U110_40, U110_43, U110_46, U110_48, U110_51, U110_52, U110_55, U110_56, U110_59, U110_60, U110_63, U110_64, U110_65, U110_68, U110_71, U110_72, U110_73, U110_76, U110_77, z_kd_sI, z_ln_sI, z_gI_sI, z_gJ_sI, z_gP_sI, z_nx_sI, z_rc_sI, z_rs_sI, z_em_sI, z_mi_sI, z_kd_sJ, z_ln_sJ, z_gI_sJ, z_gJ_sJ, z_gP_sJ, z_nx_sJ, z_rc_sJ, z_rs_sJ, z_em_sJ, z_mi_sJ, z_kd_sP, z_ln_sP, z_gI_sP, z_gJ_sP, z_gP_sP, z_nx_sP, z_rc_sP, z_rs_sP, z_em_sP, z_mi_sP, z_kd_nw, z_ln_nw, z_gI_nw, z_gJ_nw, z_gP_nw, z_nx_nw, z_rc_nw, z_rs_nw, z_em_nw, z_mi_nw, z_kd_cI, z_ln_cI, z_gI_cI, z_gJ_cI, z_gP_cI, z_nx_cI, z_rc_cI, z_rs_cI, z_em_cI, z_mi_cI, z_kd_cP, z_ln_cP, z_gI_cP, z_gJ_cP, z_gP_cP, z_nx_cP, z_rc_cP, z_rs_cP, z_em_cP, z_mi_cP, z_kd_wI, z_ln_wI, z_gI_wI, z_gJ_wI, z_gP_wI, z_nx_wI, z_rc_wI, z_rs_wI, z_em_wI, z_mi_wI, z_kd_wJ, z_ln_wJ, z_gI_wJ, z_gJ_wJ, z_gP_wJ, z_nx_wJ, z_rc_wJ, z_rs_wJ, z_em_wJ, z_mi_wJ, k11', w1, h128, i_add, i_mul, i_sub, i_addn, i_lt, i_eq, i_idx, i_vp, true_and, and_true, false_and, and_false, if_true, if_false, Nat.reduceAdd, Nat.reduceMul, Nat.reduceSub, Nat.reduceEqDiff, Option.some.injEq, exists_eq_left', true_or, or_true, false_or, or_false, not_true_eq_false, not_false_eq_true, eq_self, and_self, Nat.reduceLeDiff, decide_true, decide_false, ne_eq, Nat.left_eq_add, Nat.add_eq_left, Nat.add_left_cancel_iff, Nat.add_zero]
          exact ⟨f1.trans q.2, ⟨_, rfl⟩, q.1⟩
        · simp (disch := omega) only [V106, U110_0, U110_1, U110_2, U110_3, U110_5, U110_7, U110_10, U110_11, U110_14, U110_16, U110_17, U110_19, U110_21, U110_22, U110_23, U110_25, U110_26, U110_27, U110_28, U110_29, U110_30, U110_32, U110_35, U110_38, U110_39, U110_40, U110_43, U110_46, U110_48, U110_51, U110_52, U110_55, U110_56, U110_59, U110_60, U110_63, U110_64, U110_65, U110_68, U110_71, U110_72, U110_73, U110_76, U110_77, z_kd_sI, z_ln_sI, z_gI_sI, z_gJ_sI, z_gP_sI, z_nx_sI, z_rc_sI, z_rs_sI, z_em_sI, z_mi_sI, z_kd_sJ, z_ln_sJ, z_gI_sJ, z_gJ_sJ, z_gP_sJ, z_nx_sJ, z_rc_sJ, z_rs_sJ, z_em_sJ, z_mi_sJ, z_kd_sP, z_ln_sP, z_gI_sP, z_gJ_sP, z_gP_sP, z_nx_sP, z_rc_sP, z_rs_sP, z_em_sP, z_mi_sP, z_kd_nw, z_ln_nw, z_gI_nw, z_gJ_nw, z_gP_nw, z_nx_nw, z_rc_nw, z_rs_nw, z_em_nw, z_mi_nw, z_kd_cI, z_ln_cI, z_gI_cI, z_gJ_cI, z_gP_cI, z_nx_cI, z_rc_cI, z_rs_cI, z_em_cI, z_mi_cI, z_kd_cP, z_ln_cP, z_gI_cP, z_gJ_cP, z_gP_cP, z_nx_cP, z_rc_cP, z_rs_cP, z_em_cP, z_mi_cP, z_kd_wI, z_ln_wI, z_gI_wI, z_gJ_wI, z_gP_wI, z_nx_wI, z_rc_wI, z_rs_wI, z_em_wI, z_mi_wI, z_kd_wJ, z_ln_wJ, z_gI_wJ, z_gJ_wJ, z_gP_wJ, z_nx_wJ, z_rc_wJ, z_rs_wJ, z_em_wJ, z_mi_wJ, k11', w1, h128, i_add, i_mul, i_sub, i_addn, i_lt, i_eq, i_idx, i_vp, true_and, and_true, false_and, and_false, if_true, if_false, Nat.reduceAdd, Nat.reduceMul, Nat.reduceSub, Nat.reduceEqDiff, Option.some.injEq, exists_eq_left', true_or, or_true, false_or, or_false, not_true_eq_false, not_false_eq_true, eq_self, and_self, Nat.reduceLeDiff, decide_true, decide_false, ne_eq, Nat.left_eq_add, Nat.add_eq_left, Nat.add_left_cancel_iff, Nat.add_zero]
          exact Wp_use (ih (k + 1) 0 _ none _ h1 (by omega) hu1 (fun z => absurd rfl z)) (PV.tr f1)
      | some q =>
        obtain ⟨b, r⟩ := q
        rw [hob] at z
        obtain ⟨rfl, hb, hu1⟩ := z
        have eo : o = some (b :: r) := by
          cases o with
          | none => cases hob
          | some r' => cases r' with
            | nil => cases hob
            | cons b' r' =>
              have := Option.some.inj hob
              have e1 := congrArg Prod.fst this
              have e2 := congrArg Prod.snd this
              simp only at e1 e2
              rw [e1, e2]
        subst eo
        have q := ha (by simp)
        clear ha
        obtain ⟨rfl, ha⟩ := q
        have k11' : kd_ h1 u = 11 := by rw [f1.kd, k11]
        have w1 : gI_ h1 u 6 = Int32.ofNat 1 := by obtain ⟨p, hu, ho⟩ := hu1; exact ho.2
        have hp : 2 ^ (7 * (k + 1)) = 128 * 2 ^ (7 * k) := by rw [show 7 * (k + 1) = 7 * k + 7 by omega, Nat.pow_add, Nat.mul_comm]
        have hbd : b % 128 * 2 ^ (7 * k) ≤ 127 * 2 ^ (7 * k) := Nat.mul_le_mul_right _ (by omega)
        have vo := var_or (show k < 9 by omega) ha hb
        rw [show (some (b :: r)).bind (rV (n + 1) k a) = rV (n + 1) k a (b :: r) from rfl]
        simp only [rV]
        by_cases h128 : b < 128
        · rw [if_pos h128]
          obtain ⟨p, hp, ho⟩ := hu1
          have q := hp.bad
          by_cases h0 : b = 0 ∧ 0 < k
          · rw [if_pos h0]
            obtain ⟨rfl, hk0⟩ := h0
            simp (disch := omega) only [V106, U110_0, U110_1, U110_2, U110_3, U110_5, U110_7, U110_10, U110_11, U110_14, U110_16, U110_17, U110_19, U110_21, U110_22, U110_23, U110_25, U110_26, U110_27, U110_28, U110_29, U110_30, U110_32, U110_35, U110_38, U110_39, U110_40, U110_43, U110_46, U110_48, U110_51, U110_52, U110_55, U110_56, U110_59, U110_60, U110_63, U110_64, U110_65, U110_68, U110_71, U110_72, U110_73, U110_76, U110_77, z_kd_sI, z_ln_sI, z_gI_sI, z_gJ_sI, z_gP_sI, z_nx_sI, z_rc_sI, z_rs_sI, z_em_sI, z_mi_sI, z_kd_sJ, z_ln_sJ, z_gI_sJ, z_gJ_sJ, z_gP_sJ, z_nx_sJ, z_rc_sJ, z_rs_sJ, z_em_sJ, z_mi_sJ, z_kd_sP, z_ln_sP, z_gI_sP, z_gJ_sP, z_gP_sP, z_nx_sP, z_rc_sP, z_rs_sP, z_em_sP, z_mi_sP, z_kd_nw, z_ln_nw, z_gI_nw, z_gJ_nw, z_gP_nw, z_nx_nw, z_rc_nw, z_rs_nw, z_em_nw, z_mi_nw, z_kd_cI, z_ln_cI, z_gI_cI, z_gJ_cI, z_gP_cI, z_nx_cI, z_rc_cI, z_rs_cI, z_em_cI, z_mi_cI, z_kd_cP, z_ln_cP, z_gI_cP, z_gJ_cP, z_gP_cP, z_nx_cP, z_rc_cP, z_rs_cP, z_em_cP, z_mi_cP, z_kd_wI, z_ln_wI, z_gI_wI, z_gJ_wI, z_gP_wI, z_nx_wI, z_rc_wI, z_rs_wI, z_em_wI, z_mi_wI, z_kd_wJ, z_ln_wJ, z_gI_wJ, z_gJ_wJ, z_gP_wJ, z_nx_wJ, z_rc_wJ, z_rs_wJ, z_em_wJ, z_mi_wJ, k11', w1, show ¬ k = 0 by omega, show (0 : Nat) < 128 by omega, show ¬ (1 : Nat) = 0 by omega, i_add, i_mul, i_sub, i_addn, i_lt, i_eq, i_idx, i_vp, true_and, and_true, false_and, and_false, if_true, if_false, Nat.reduceAdd, Nat.reduceMul, Nat.reduceSub, Nat.reduceEqDiff, Option.some.injEq, exists_eq_left', true_or, or_true, false_or, or_false, not_true_eq_false, not_false_eq_true, eq_self, and_self, Nat.reduceLeDiff, decide_true, decide_false, ne_eq, Nat.left_eq_add, Nat.add_eq_left, Nat.add_left_cancel_iff, Nat.add_zero]
            exact ⟨f1.trans q.2, ⟨_, rfl⟩, q.1⟩
          · rw [if_neg h0]
            obtain ⟨w2, w3, w4⟩ := hp.w (Int32.ofNat 1)
            rw [Nat.mod_eq_of_lt h128] at vo
            by_cases hb0 : b = 0
            · have hk0 : k = 0 := by omega
              subst hb0 hk0
              simp (disch := omega) only [V106, U110_0, U110_1, U110_2, U110_3, U110_5, U110_7, U110_10, U110_11, U110_14, U110_16, U110_17, U110_19, U110_21, U110_22, U110_23, U110_25, U110_26, U110_27, U110_28, U110_29, U110_30, U110_32, U110_35, U110_38, U110_39, U110_40, U110_43, U110_46, U110_48, U110_51, U110_52, U110_55, U110_56, U110_59, U110_60, U110_63, U110_64, U110_65, U110_68, U110_71, U110_72, U110_73, U110_76, U110_77, z_kd_sI, z_ln_sI, z_gI_sI, z_gJ_sI, z_gP_sI, z_nx_sI, z_rc_sI, z_rs_sI, z_em_sI, z_mi_sI, z_kd_sJ, z_ln_sJ, z_gI_sJ, z_gJ_sJ, z_gP_sJ, z_nx_sJ, z_rc_sJ, z_rs_sJ, z_em_sJ, z_mi_sJ, z_kd_sP, z_ln_sP, z_gI_sP, z_gJ_sP, z_gP_sP, z_nx_sP, z_rc_sP, z_rs_sP, z_em_sP, z_mi_sP, z_kd_nw, z_ln_nw, z_gI_nw, z_gJ_nw, z_gP_nw, z_nx_nw, z_rc_nw, z_rs_nw, z_em_nw, z_mi_nw, z_kd_cI, z_ln_cI, z_gI_cI, z_gJ_cI, z_gP_cI, z_nx_cI, z_rc_cI, z_rs_cI, z_em_cI, z_mi_cI, z_kd_cP, z_ln_cP, z_gI_cP, z_gJ_cP, z_gP_cP, z_nx_cP, z_rc_cP, z_rs_cP, z_em_cP, z_mi_cP, z_kd_wI, z_ln_wI, z_gI_wI, z_gJ_wI, z_gP_wI, z_nx_wI, z_rc_wI, z_rs_wI, z_em_wI, z_mi_wI, z_kd_wJ, z_ln_wJ, z_gI_wJ, z_gJ_wJ, z_gP_wJ, z_nx_wJ, z_rc_wJ, z_rs_wJ, z_em_wJ, z_mi_wJ, k11', w1, show (0 : Nat) < 128 by omega, show ¬ (1 : Nat) = 0 by omega, vo, i_add, i_mul, i_sub, i_addn, i_lt, i_eq, i_idx, i_vp, true_and, and_true, false_and, and_false, if_true, if_false, Nat.reduceAdd, Nat.reduceMul, Nat.reduceSub, Nat.reduceEqDiff, Option.some.injEq, exists_eq_left', true_or, or_true, false_or, or_false, not_true_eq_false, not_false_eq_true, eq_self, and_self, Nat.reduceLeDiff, decide_true, decide_false, ne_eq, Nat.left_eq_add, Nat.add_eq_left, Nat.add_left_cancel_iff, Nat.add_zero]
              exact ⟨f1.trans w4, rfl, p, w2, ho.1, w3⟩
            · simp (disch := omega) only [V106, U110_0, U110_1, U110_2, U110_3, U110_5, U110_7, U110_10, U110_11, U110_14, U110_16, U110_17, U110_19, U110_21, U110_22, U110_23, U110_25, U110_26, U110_27, U110_28, U110_29, U110_30, U110_32, U110_35, U110_38, U110_39, U110_40, U110_43, U110_46, U110_48, U110_51, U110_52, U110_55, U110_56, U110_59, U110_60, U110_63, U110_64, U110_65, U110_68, U110_71, U110_72, U110_73, U110_76, U110_77, z_kd_sI, z_ln_sI, z_gI_sI, z_gJ_sI, z_gP_sI, z_nx_sI, z_rc_sI, z_rs_sI, z_em_sI, z_mi_sI, z_kd_sJ, z_ln_sJ, z_gI_sJ, z_gJ_sJ, z_gP_sJ, z_nx_sJ, z_rc_sJ, z_rs_sJ, z_em_sJ, z_mi_sJ, z_kd_sP, z_ln_sP, z_gI_sP, z_gJ_sP, z_gP_sP, z_nx_sP, z_rc_sP, z_rs_sP, z_em_sP, z_mi_sP, z_kd_nw, z_ln_nw, z_gI_nw, z_gJ_nw, z_gP_nw, z_nx_nw, z_rc_nw, z_rs_nw, z_em_nw, z_mi_nw, z_kd_cI, z_ln_cI, z_gI_cI, z_gJ_cI, z_gP_cI, z_nx_cI, z_rc_cI, z_rs_cI, z_em_cI, z_mi_cI, z_kd_cP, z_ln_cP, z_gI_cP, z_gJ_cP, z_gP_cP, z_nx_cP, z_rc_cP, z_rs_cP, z_em_cP, z_mi_cP, z_kd_wI, z_ln_wI, z_gI_wI, z_gJ_wI, z_gP_wI, z_nx_wI, z_rc_wI, z_rs_wI, z_em_wI, z_mi_wI, z_kd_wJ, z_ln_wJ, z_gI_wJ, z_gJ_wJ, z_gP_wJ, z_nx_wJ, z_rc_wJ, z_rs_wJ, z_em_wJ, z_mi_wJ, k11', w1, h128, hb0, show ¬ (1 : Nat) = 0 by omega, vo, i_add, i_mul, i_sub, i_addn, i_lt, i_eq, i_idx, i_vp, true_and, and_true, false_and, and_false, if_true, if_false, Nat.reduceAdd, Nat.reduceMul, Nat.reduceSub, Nat.reduceEqDiff, Option.some.injEq, exists_eq_left', true_or, or_true, false_or, or_false, not_true_eq_false, not_false_eq_true, eq_self, and_self, Nat.reduceLeDiff, decide_true, decide_false, ne_eq, Nat.left_eq_add, Nat.add_eq_left, Nat.add_left_cancel_iff, Nat.add_zero]
              exact ⟨f1.trans w4, rfl, p, w2, ho.1, w3⟩
        · rw [if_neg h128]
          simp (disch := omega) only [V106, U110_0, U110_1, U110_2, U110_3, U110_5, U110_7, U110_10, U110_11, U110_14, U110_16, U110_17, U110_19, U110_21, U110_22, U110_23, U110_25, U110_26, U110_27, U110_28, U110_29, U110_30, U110_32, U110_35, U110_38, U110_39, U110_40, U110_43, U110_46, U110_48, U110_51, U110_52, U110_55, U110_56, U110_59, U110_60, U110_63, U110_64, U110_65, U110_68, U110_71, U110_72, U110_73, U110_76, U110_77, z_kd_sI, z_ln_sI, z_gI_sI, z_gJ_sI, z_gP_sI, z_nx_sI, z_rc_sI, z_rs_sI, z_em_sI, z_mi_sI, z_kd_sJ, z_ln_sJ, z_gI_sJ, z_gJ_sJ, z_gP_sJ, z_nx_sJ, z_rc_sJ, z_rs_sJ, z_em_sJ, z_mi_sJ, z_kd_sP, z_ln_sP, z_gI_sP, z_gJ_sP, z_gP_sP, z_nx_sP, z_rc_sP, z_rs_sP, z_em_sP, z_mi_sP, z_kd_nw, z_ln_nw, z_gI_nw, z_gJ_nw, z_gP_nw, z_nx_nw, z_rc_nw, z_rs_nw, z_em_nw, z_mi_nw, z_kd_cI, z_ln_cI, z_gI_cI, z_gJ_cI, z_gP_cI, z_nx_cI, z_rc_cI, z_rs_cI, z_em_cI, z_mi_cI, z_kd_cP, z_ln_cP, z_gI_cP, z_gJ_cP, z_gP_cP, z_nx_cP, z_rc_cP, z_rs_cP, z_em_cP, z_mi_cP, z_kd_wI, z_ln_wI, z_gI_wI, z_gJ_wI, z_gP_wI, z_nx_wI, z_rc_wI, z_rs_wI, z_em_wI, z_mi_wI, z_kd_wJ, z_ln_wJ, z_gI_wJ, z_gJ_wJ, z_gP_wJ, z_nx_wJ, z_rc_wJ, z_rs_wJ, z_em_wJ, z_mi_wJ, k11', w1, h128, vo, i_add, i_mul, i_sub, i_addn, i_lt, i_eq, i_idx, i_vp, true_and, and_true, false_and, and_false, if_true, if_false, Nat.reduceAdd, Nat.reduceMul, Nat.reduceSub, Nat.reduceEqDiff, Option.some.injEq, exists_eq_left', true_or, or_true, false_or, or_false, not_true_eq_false, not_false_eq_true, eq_self, and_self, Nat.reduceLeDiff, decide_true, decide_false, ne_eq, Nat.left_eq_add, Nat.add_eq_left, Nat.add_left_cancel_iff, Nat.add_zero]
          exact Wp_use (ih (k + 1) _ _ (some r) _ h1 (by omega) hu1 (fun _ => ⟨rfl, by omega⟩)) (PV.tr f1)
  simp (disch := omega) only [U110_0, U110_1, U110_2, U110_3, U110_5, U110_7, U110_10, U110_11, U110_14, U110_16, U110_17, U110_19, U110_21, U110_22, U110_23, U110_25, U110_26, U110_27, U110_28, U110_29, U110_30, U110_32, U110_35, U110_38, U110_39, U110_40, U110_43, U110_46, U110_48, U110_51, U110_52, U110_55, U110_56, U110_59, U110_60, U110_63, U110_64, U110_65, U110_68, U110_71, U110_72, U110_73, U110_76, U110_77, i_add, i_mul, i_sub, i_addn, i_lt, i_eq, i_idx, i_vp, true_and, and_true, false_and, and_false, if_true, if_false, Nat.reduceAdd, Nat.reduceMul, Nat.reduceSub, Nat.reduceEqDiff, Option.some.injEq, exists_eq_left', true_or, or_true, false_or, or_false, not_true_eq_false, not_false_eq_true, eq_self, and_self, Nat.reduceLeDiff, decide_true, decide_false, ne_eq, Nat.left_eq_add, Nat.add_eq_left, Nat.add_left_cancel_iff, Nat.add_zero]
  exact key 9 0 0 _ o _ h rfl hu (fun _ => ⟨rfl, by decide⟩)
def PN (h : MH_) (u fr e : Nat) (fl : List Nat) (res : Option (Int32 × List Nat)) : Rs_ → MH_ → Prop := fun v h' => Fz (SU u) h h' ∧ match res with
  | some (x, r) => v = .inl (.int x) ∧ UO h' u fr e fl (some r)
  | none => (∃ x, v = .inl (.int x)) ∧ UO h' u fr e fl none
theorem PN.tr {h h1 : MH_} {u fr e : Nat} {fl : List Nat} {res : Option (Int32 × List Nat)} (f : Fz (SU u) h h1) : ∀ v h', PN h1 u fr e fl res v h' → PN h u fr e fl res v h' := fun _ _ z => ⟨f.trans z.1, z.2⟩
/-- a byte is 0 .. 255: in every state one comes -/
theorem takeB' {h : MH_} {u fr e : Nat} {fl : List Nat} {o : Option (List Nat)} (hu : UO h u fr e fl o) : Wp 106 0 [.ref u, .null] [] h (fun v h' => ∃ b o', v = .inl (.int (Int32.ofNat b)) ∧ b < 256 ∧ Fz (SU u) h h' ∧ UO h' u fr e fl o' ∧ ((o = some (b :: o'.getD []) ∧ o' ≠ none) ∨ (o' = none ∧ (o = none ∨ o = some [])))) := by
  refine Wp_use (takeB hu) ?_
  rintro v h1 ⟨f1, z⟩
  cases o with
  | none => obtain ⟨⟨b, hb, rfl⟩, hu1⟩ := z; exact ⟨b, none, rfl, hb, f1, hu1, Or.inr ⟨rfl, Or.inl rfl⟩⟩
  | some r => cases r with
    | nil => obtain ⟨⟨b, hb, rfl⟩, hu1⟩ := z; exact ⟨b, none, rfl, hb, f1, hu1, Or.inr ⟨rfl, Or.inr rfl⟩⟩
    | cons b r => obtain ⟨rfl, hb, hu1⟩ := z; exact ⟨b, some r, rfl, hb, f1, hu1, Or.inl ⟨rfl, by simp⟩⟩
theorem Unp_takeItself {h : MH_} {u fr e : Nat} {fl : List Nat} {o : Option (List Nat)} (hu : UO h u fr e fl o) : Wp 108 0 [.ref u, .null, .null] [] h (PN h u fr e fl (o.bind (rI 4 (Int32.ofNat 0)))) := by
  have key : ∀ n k x o h, k + n = 4 → UO h u fr e fl o → Wp 108 4 [.ref u, .int x, .int (Int32.ofNat k)] [] h (PN h u fr e fl (o.bind (rI n x))) := by
    intro n
    induction n with
    | zero =>
      intro k x o h hk hu
      rw [U108_4]
      simp (disch := omega) only [U108_0, U108_1, U108_2, U108_3, U108_5, U108_6, U108_9, U108_10, U108_12, U108_13, U108_14, U108_17, U108_18, U108_19, U108_22, U108_25, U108_26, show ¬ k < 4 by omega, i_add, i_mul, i_sub, i_addn, i_lt, i_eq, i_idx, i_vp, true_and, and_true, false_and, and_false, if_true, if_false, Nat.reduceAdd, Nat.reduceMul, Nat.reduceSub, Nat.reduceEqDiff, Option.some.injEq, exists_eq_left', true_or, or_true, false_or, or_false, not_true_eq_false, not_false_eq_true, eq_self, and_self, Nat.reduceLeDiff, decide_true, decide_false, ne_eq, Nat.left_eq_add, Nat.add_eq_left, Nat.add_left_cancel_iff, Nat.add_zero]
      cases o with
      | none => exact ⟨Fz.rfl', ⟨_, rfl⟩, hu⟩
      | some r => exact ⟨Fz.rfl', rfl, hu⟩
    | succ n ih =>
      intro k x o h hk hu
      have k11 : kd_ h u = 11 := by obtain ⟨p, hu, ho⟩ := hu; exact hu.1.1
      rw [U108_4]
      simp (disch := omega) only [U108_0, U108_1, U108_2, U108_3, U108_5, U108_6, U108_9, U108_10, U108_12, U108_13, U108_14, U108_17, U108_18, U108_19, U108_22, U108_25, U108_26, k11, show k < 4 by omega, i_add, i_mul, i_sub, i_addn, i_lt, i_eq, i_idx, i_vp, true_and, and_true, false_and, and_false, if_true, if_false, Nat.reduceAdd, Nat.reduceMul, Nat.reduceSub, Nat.reduceEqDiff, Option.some.injEq, exists_eq_left', true_or, or_true, false_or, or_false, not_true_eq_false, not_false_eq_true, eq_self, and_self, Nat.reduceLeDiff, decide_true, decide_false, ne_eq, Nat.left_eq_add, Nat.add_eq_left, Nat.add_left_cancel_iff, Nat.add_zero]
      refine Wp_use (takeB' hu) ?_
      rintro v h1 ⟨b, o', rfl, hb, f1, hu1, z⟩
      simp (disch := omega) only [V106, U108_0, U108_1, U108_2, U108_3, U108_5, U108_6, U108_9, U108_10, U108_12, U108_13, U108_14, U108_17, U108_18, U108_19, U108_22, U108_25, U108_26, ishl_or x hb, i_add, i_mul, i_sub, i_addn, i_lt, i_eq, i_idx, i_vp, true_and, and_true, false_and, and_false, if_true, if_false, Nat.reduceAdd, Nat.reduceMul, Nat.reduceSub, Nat.reduceEqDiff, Option.some.injEq, exists_eq_left', true_or, or_true, false_or, or_false, not_true_eq_false, not_false_eq_true, eq_self, and_self, Nat.reduceLeDiff, decide_true, decide_false, ne_eq, Nat.left_eq_add, Nat.add_eq_left, Nat.add_left_cancel_iff, Nat.add_zero]
      have q := ih (k + 1) (Int32.ofNat 256 * x + Int32.ofNat b) o' h1 (by omega) hu1
      rcases z with ⟨rfl, z2⟩ | ⟨rfl, rfl | rfl⟩
      · cases o' with
        | none => exact absurd rfl z2
        | some r => exact Wp_use q (PN.tr f1)
      · exact Wp_use q (PN.tr f1)
      · exact Wp_use q (PN.tr f1)
  simp (disch := omega) only [U108_0, U108_1, U108_2, U108_3, U108_5, U108_6, U108_9, U108_10, U108_12, U108_13, U108_14, U108_17, U108_18, U108_19, U108_22, U108_25, U108_26, i_add, i_mul, i_sub, i_addn, i_lt, i_eq, i_idx, i_vp, true_and, and_true, false_and, and_false, if_true, if_false, Nat.reduceAdd, Nat.reduceMul, Nat.reduceSub, Nat.reduceEqDiff, Option.some.injEq, exists_eq_left', true_or, or_true, false_or, or_false, not_true_eq_false, not_false_eq_true, eq_self, and_self, Nat.reduceLeDiff, decide_true, decide_false, ne_eq, Nat.left_eq_add, Nat.add_eq_left, Nat.add_left_cancel_iff, Nat.add_zero]
  exact key 4 0 _ o h rfl hu
theorem st_lo : ∀ b : Fin 256, (Int32.ofNat b.val - Int32.ofNat 64 = Int32.ofNat 0 ↔ b.val = 64) ∧ (Int32.ofNat b.val - Int32.ofNat 64 < -(Int32.ofNat 60) ↔ b.val < 4) ∧ (Int32.ofNat 60 < Int32.ofNat b.val - Int32.ofNat 64 ↔ 124 < b.val) := by decide +kernel
theorem Unp_takeNumber {h : MH_} {u fr e : Nat} {la : Int32} {fl : List Nat} {o : Option (List Nat)} (hu : UO h u fr e fl o) : Wp 107 0 [.ref u, .int la, .null, .null] [] h (PN h u fr e fl (o.bind (rN la))) := by
  have k11 : kd_ h u = 11 := by obtain ⟨p, hu, ho⟩ := hu; exact hu.1.1
  simp (disch := omega) only [U107_0, U107_1, U107_4, U107_5, U107_6, U107_9, U107_10, U107_11, U107_12, U107_15, U107_18, U107_19, U107_22, U107_23, U107_24, U107_26, U107_27, U107_28, U107_29, U107_32, U107_33, U107_35, U107_38, U107_39, U107_41, U107_44, U107_45, U107_46, U107_49, U107_50, U107_51, U107_52, k11, i_add, i_mul, i_lt, i_eq, i_idx, true_and, and_true, false_and, and_false, if_true, if_false, Nat.reduceAdd, Nat.reduceMul, Nat.reduceSub, Nat.reduceEqDiff, Option.some.injEq, exists_eq_left', true_or, or_true, false_or, or_false, not_true_eq_false, not_false_eq_true, eq_self, and_self, Nat.reduceLeDiff, decide_true, decide_false, ne_eq, Nat.left_eq_add, Nat.add_eq_left, Nat.add_left_cancel_iff, Nat.add_zero]
  refine Wp_use (takeB' hu) ?_
  rintro v h1 ⟨b, o', rfl, hb, f1, hu1, z⟩
  have k11' : kd_ h1 u = 11 := by rw [f1.kd, k11]
  obtain ⟨s1, s2, s3⟩ := st_lo ⟨b, hb⟩
  simp only at s1 s2 s3
  have ex : o.bind (rN la) = o'.bind (fun r => rN la (b :: r)) := by
    rcases z with ⟨rfl, z2⟩ | ⟨rfl, rfl | rfl⟩
    · cases o' with
      | none => exact absurd rfl z2
      | some r => rfl
    · rfl
    · rfl
  rw [ex]
  by_cases b0 : b = 0
  · simp (disch := omega) only [V106, U107_0, U107_1, U107_4, U107_5, U107_6, U107_9, U107_10, U107_11, U107_12, U107_15, U107_18, U107_19, U107_22, U107_23, U107_24, U107_26, U107_27, U107_28, U107_29, U107_32, U107_33, U107_35, U107_38, U107_39, U107_41, U107_44, U107_45, U107_46, U107_49, U107_50, U107_51, U107_52, b0, i_add, i_mul, i_lt, i_eq, i_idx, true_and, and_true, false_and, and_false, if_true, if_false, Nat.reduceAdd, Nat.reduceMul, Nat.reduceSub, Nat.reduceEqDiff, Option.some.injEq, exists_eq_left', true_or, or_true, false_or, or_false, not_true_eq_false, not_false_eq_true, eq_self, and_self, Nat.reduceLeDiff, decide_true, decide_false, ne_eq, Nat.left_eq_add, Nat.add_eq_left, Nat.add_left_cancel_iff, Nat.add_zero]
    refine ⟨f1, ?_⟩
    cases o' with
    | none => exact ⟨⟨_, rfl⟩, hu1⟩
    | some r => rw [show (some r).bind (fun r => rN la (0 :: r)) = some (la, r) by simp [rN]]; exact ⟨rfl, hu1⟩
  · by_cases b255 : b = 255
    · simp (disch := omega) only [V106, U107_0, U107_1, U107_4, U107_5, U107_6, U107_9, U107_10, U107_11, U107_12, U107_15, U107_18, U107_19, U107_22, U107_23, U107_24, U107_26, U107_27, U107_28, U107_29, U107_32, U107_33, U107_35, U107_38, U107_39, U107_41, U107_44, U107_45, U107_46, U107_49, U107_50, U107_51, U107_52, b255, k11', i_add, i_mul, i_lt, i_eq, i_idx, true_and, and_true, false_and, and_false, if_true, if_false, Nat.reduceAdd, Nat.reduceMul, Nat.reduceSub, Nat.reduceEqDiff, Option.some.injEq, exists_eq_left', true_or, or_true, false_or, or_false, not_true_eq_false, not_false_eq_true, eq_self, and_self, Nat.reduceLeDiff, decide_true, decide_false, ne_eq, Nat.left_eq_add, Nat.add_eq_left, Nat.add_left_cancel_iff, Nat.add_zero]
      refine Wp_use (Unp_takeItself hu1) ?_
      rintro v h2 z2
      rw [show o'.bind (fun r => rN la (255 :: r)) = o'.bind (rI 4 (Int32.ofNat 0)) by cases o' <;> simp [rN]]
      obtain ⟨f2, z2⟩ := z2
      cases hres : o'.bind (rI 4 (Int32.ofNat 0)) with
      | none =>
        rw [hres] at z2
        obtain ⟨⟨x, rfl⟩, hu2⟩ := z2
        simp (disch := omega) only [V108, U107_0, U107_1, U107_4, U107_5, U107_6, U107_9, U107_10, U107_11, U107_12, U107_15, U107_18, U107_19, U107_22, U107_23, U107_24, U107_26, U107_27, U107_28, U107_29, U107_32, U107_33, U107_35, U107_38, U107_39, U107_41, U107_44, U107_45, U107_46, U107_49, U107_50, U107_51, U107_52, i_add, i_mul, i_lt, i_eq, i_idx, true_and, and_true, false_and, and_false, if_true, if_false, Nat.reduceAdd, Nat.reduceMul, Nat.reduceSub, Nat.reduceEqDiff, Option.some.injEq, exists_eq_left', true_or, or_true, false_or, or_false, not_true_eq_false, not_false_eq_true, eq_self, and_self, Nat.reduceLeDiff, decide_true, decide_false, ne_eq, Nat.left_eq_add, Nat.add_eq_left, Nat.add_left_cancel_iff, Nat.add_zero]
        exact ⟨f1.trans f2, ⟨_, rfl⟩, hu2⟩
      | some q =>
        obtain ⟨x, r⟩ := q
        rw [hres] at z2
        obtain ⟨rfl, hu2⟩ := z2
        simp (disch := omega) only [V108, U107_0, U107_1, U107_4, U107_5, U107_6, U107_9, U107_10, U107_11, U107_12, U107_15, U107_18, U107_19, U107_22, U107_23, U107_24, U107_26, U107_27, U107_28, U107_29, U107_32, U107_33, U107_35, U107_38, U107_39, U107_41, U107_44, U107_45, U107_46, U107_49, U107_50, U107_51, U107_52, i_add, i_mul, i_lt, i_eq, i_idx, true_and, and_true, false_and, and_false, if_true, if_false, Nat.reduceAdd, Nat.reduceMul, Nat.reduceSub, Nat.reduceEqDiff, Option.some.injEq, exists_eq_left', true_or, or_true, false_or, or_false, not_true_eq_false, not_false_eq_true, eq_self, and_self, Nat.reduceLeDiff, decide_true, decide_false, ne_eq, Nat.left_eq_add, Nat.add_eq_left, Nat.add_left_cancel_iff, Nat.add_zero]
        exact ⟨f1.trans f2, rfl, hu2⟩
    · obtain ⟨p, hp, ho⟩ := hu1
      have q := hp.bad
      by_cases hg : 4 ≤ b ∧ b ≤ 124 ∧ ¬ b = 64
      · simp (disch := omega) only [V106, U107_0, U107_1, U107_4, U107_5, U107_6, U107_9, U107_10, U107_11, U107_12, U107_15, U107_18, U107_19, U107_22, U107_23, U107_24, U107_26, U107_27, U107_28, U107_29, U107_32, U107_33, U107_35, U107_38, U107_39, U107_41, U107_44, U107_45, U107_46, U107_49, U107_50, U107_51, U107_52, b0, b255, s1, s2, s3, show ¬ b < 4 by omega, show ¬ 124 < b by omega, hg.2.2, k11', i_add, i_mul, i_lt, i_eq, i_idx, true_and, and_true, false_and, and_false, if_true, if_false, Nat.reduceAdd, Nat.reduceMul, Nat.reduceSub, Nat.reduceEqDiff, Option.some.injEq, exists_eq_left', true_or, or_true, false_or, or_false, not_true_eq_false, not_false_eq_true, eq_self, and_self, Nat.reduceLeDiff, decide_true, decide_false, ne_eq, Nat.left_eq_add, Nat.add_eq_left, Nat.add_left_cancel_iff, Nat.add_zero]
        refine ⟨f1, ?_⟩
        cases o' with
        | none => exact ⟨⟨_, rfl⟩, p, hp, ho⟩
        | some r =>
          rw [show (some r).bind (fun r => rN la (b :: r)) = some (la + (Int32.ofNat b - Int32.ofNat 64), r) by simp [rN, b0, b255, hg]]
          exact ⟨rfl, p, hp, ho⟩
      · rw [show o'.bind (fun r => rN la (b :: r)) = none by cases o' <;> simp [rN, b0, b255, hg]]
        by_cases g1 : b = 64
        · subst g1
          simp (disch := omega) only [V106, U107_0, U107_1, U107_4, U107_5, U107_6, U107_9, U107_10, U107_11, U107_12, U107_15, U107_18, U107_19, U107_22, U107_23, U107_24, U107_26, U107_27, U107_28, U107_29, U107_32, U107_33, U107_35, U107_38, U107_39, U107_41, U107_44, U107_45, U107_46, U107_49, U107_50, U107_51, U107_52, z_kd_sI, z_ln_sI, z_gI_sI, z_gJ_sI, z_gP_sI, z_nx_sI, z_rc_sI, z_rs_sI, z_em_sI, z_mi_sI, z_kd_sJ, z_ln_sJ, z_gI_sJ, z_gJ_sJ, z_gP_sJ, z_nx_sJ, z_rc_sJ, z_rs_sJ, z_em_sJ, z_mi_sJ, z_kd_sP, z_ln_sP, z_gI_sP, z_gJ_sP, z_gP_sP, z_nx_sP, z_rc_sP, z_rs_sP, z_em_sP, z_mi_sP, z_kd_nw, z_ln_nw, z_gI_nw, z_gJ_nw, z_gP_nw, z_nx_nw, z_rc_nw, z_rs_nw, z_em_nw, z_mi_nw, z_kd_cI, z_ln_cI, z_gI_cI, z_gJ_cI, z_gP_cI, z_nx_cI, z_rc_cI, z_rs_cI, z_em_cI, z_mi_cI, z_kd_cP, z_ln_cP, z_gI_cP, z_gJ_cP, z_gP_cP, z_nx_cP, z_rc_cP, z_rs_cP, z_em_cP, z_mi_cP, z_kd_wI, z_ln_wI, z_gI_wI, z_gJ_wI, z_gP_wI, z_nx_wI, z_rc_wI, z_rs_wI, z_em_wI, z_mi_wI, z_kd_wJ, z_ln_wJ, z_gI_wJ, z_gJ_wJ, z_gP_wJ, z_nx_wJ, z_rc_wJ, z_rs_wJ, z_em_wJ, z_mi_wJ, b0, b255, s1, s2, s3, k11', i_add, i_mul, i_lt, i_eq, i_idx, true_and, and_true, false_and, and_false, if_true, if_false, Nat.reduceAdd, Nat.reduceMul, Nat.reduceSub, Nat.reduceEqDiff, Option.some.injEq, exists_eq_left', true_or, or_true, false_or, or_false, not_true_eq_false, not_false_eq_true, eq_self, and_self, Nat.reduceLeDiff, decide_true, decide_false, ne_eq, Nat.left_eq_add, Nat.add_eq_left, Nat.add_left_cancel_iff, Nat.add_zero]
          exact ⟨f1.trans q.2, ⟨_, rfl⟩, q.1⟩
        · by_cases g2 : b < 4
          · simp (disch := omega) only [V106, U107_0, U107_1, U107_4, U107_5, U107_6, U107_9, U107_10, U107_11, U107_12, U107_15, U107_18, U107_19, U107_22, U107_23, U107_24, U107_26, U107_27, U107_28, U107_29, U107_32, U107_33, U107_35, U107_38, U107_39, U107_41, U107_44, U107_45, U107_46, U107_49, U107_50, U107_51, U107_52, z_kd_sI, z_ln_sI, z_gI_sI, z_gJ_sI, z_gP_sI, z_nx_sI, z_rc_sI, z_rs_sI, z_em_sI, z_mi_sI, z_kd_sJ, z_ln_sJ, z_gI_sJ, z_gJ_sJ, z_gP_sJ, z_nx_sJ, z_rc_sJ, z_rs_sJ, z_em_sJ, z_mi_sJ, z_kd_sP, z_ln_sP, z_gI_sP, z_gJ_sP, z_gP_sP, z_nx_sP, z_rc_sP, z_rs_sP, z_em_sP, z_mi_sP, z_kd_nw, z_ln_nw, z_gI_nw, z_gJ_nw, z_gP_nw, z_nx_nw, z_rc_nw, z_rs_nw, z_em_nw, z_mi_nw, z_kd_cI, z_ln_cI, z_gI_cI, z_gJ_cI, z_gP_cI, z_nx_cI, z_rc_cI, z_rs_cI, z_em_cI, z_mi_cI, z_kd_cP, z_ln_cP, z_gI_cP, z_gJ_cP, z_gP_cP, z_nx_cP, z_rc_cP, z_rs_cP, z_em_cP, z_mi_cP, z_kd_wI, z_ln_wI, z_gI_wI, z_gJ_wI, z_gP_wI, z_nx_wI, z_rc_wI, z_rs_wI, z_em_wI, z_mi_wI, z_kd_wJ, z_ln_wJ, z_gI_wJ, z_gJ_wJ, z_gP_wJ, z_nx_wJ, z_rc_wJ, z_rs_wJ, z_em_wJ, z_mi_wJ, b0, b255, s1, s2, s3, g1, g2, k11', i_add, i_mul, i_lt, i_eq, i_idx, true_and, and_true, false_and, and_false, if_true, if_false, Nat.reduceAdd, Nat.reduceMul, Nat.reduceSub, Nat.reduceEqDiff, Option.some.injEq, exists_eq_left', true_or, or_true, false_or, or_false, not_true_eq_false, not_false_eq_true, eq_self, and_self, Nat.reduceLeDiff, decide_true, decide_false, ne_eq, Nat.left_eq_add, Nat.add_eq_left, Nat.add_left_cancel_iff, Nat.add_zero]
            exact ⟨f1.trans q.2, ⟨_, rfl⟩, q.1⟩
          · simp (disch := omega) only [V106, U107_0, U107_1, U107_4, U107_5, U107_6, U107_9, U107_10, U107_11, U107_12, U107_15, U107_18, U107_19, U107_22, U107_23, U107_24, U107_26, U107_27, U107_28, U107_29, U107_32, U107_33, U107_35, U107_38, U107_39, U107_41, U107_44, U107_45, U107_46, U107_49, U107_50, U107_51, U107_52, z_kd_sI, z_ln_sI, z_gI_sI, z_gJ_sI, z_gP_sI, z_nx_sI, z_rc_sI, z_rs_sI, z_em_sI, z_mi_sI, z_kd_sJ, z_ln_sJ, z_gI_sJ, z_gJ_sJ, z_gP_sJ, z_nx_sJ, z_rc_sJ, z_rs_sJ, z_em_sJ, z_mi_sJ, z_kd_sP, z_ln_sP, z_gI_sP, z_gJ_sP, z_gP_sP, z_nx_sP, z_rc_sP, z_rs_sP, z_em_sP, z_mi_sP, z_kd_nw, z_ln_nw, z_gI_nw, z_gJ_nw, z_gP_nw, z_nx_nw, z_rc_nw, z_rs_nw, z_em_nw, z_mi_nw, z_kd_cI, z_ln_cI, z_gI_cI, z_gJ_cI, z_gP_cI, z_nx_cI, z_rc_cI, z_rs_cI, z_em_cI, z_mi_cI, z_kd_cP, z_ln_cP, z_gI_cP, z_gJ_cP, z_gP_cP, z_nx_cP, z_rc_cP, z_rs_cP, z_em_cP, z_mi_cP, z_kd_wI, z_ln_wI, z_gI_wI, z_gJ_wI, z_gP_wI, z_nx_wI, z_rc_wI, z_rs_wI, z_em_wI, z_mi_wI, z_kd_wJ, z_ln_wJ, z_gI_wJ, z_gJ_wJ, z_gP_wJ, z_nx_wJ, z_rc_wJ, z_rs_wJ, z_em_wJ, z_mi_wJ, b0, b255, s1, s2, s3, g1, g2, show 124 < b by omega, k11', i_add, i_mul, i_lt, i_eq, i_idx, true_and, and_true, false_and, and_false, if_true, if_false, Nat.reduceAdd, Nat.reduceMul, Nat.reduceSub, Nat.reduceEqDiff, Option.some.injEq, exists_eq_left', true_or, or_true, false_or, or_false, not_true_eq_false, not_false_eq_true, eq_self, and_self, Nat.reduceLeDiff, decide_true, decide_false, ne_eq, Nat.left_eq_add, Nat.add_eq_left, Nat.add_left_cancel_iff, Nat.add_zero]
            exact ⟨f1.trans q.2, ⟨_, rfl⟩, q.1⟩
