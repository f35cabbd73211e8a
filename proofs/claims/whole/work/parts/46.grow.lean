/-! ===== ArrayList: add ===== -/
theorem ASup_newLength {h : MH_} {o m p : Nat} {Q : Rs_ → MH_ → Prop} (ho : o + max m p < 1000000000) (h0 : 0 < o + max m p) (hm : m < 1000000000) (hp : p < 1000000000) : Wp 230 0 [.int (Int32.ofNat o), .int (Int32.ofNat m), .int (Int32.ofNat p), .null] [] h Q ↔ Q (.inl (.int (Int32.ofNat (o + max m p)))) h := by
  simp (disch := omega) only [U230_0, U230_1, U230_2, U230_3, U230_6, U230_7, U230_8, U230_9, U230_10, U230_13, U230_14, U230_16, U230_19, U230_20, U230_21, U230_22, U230_26, Math_max, V226, h0, show ¬ 2147483639 < o + max m p by omega, i_add, i_mul, i_sub, i_addn, i_lt, i_eq, i_idx, i_vp, true_and, and_true, false_and, and_false, if_true, if_false, Nat.reduceAdd, Nat.reduceMul, Nat.reduceSub, Nat.reduceEqDiff, Option.some.injEq, exists_eq_left', true_or, or_true, false_or, or_false, not_true_eq_false, not_false_eq_true, eq_self, and_self, Nat.reduceLeDiff, decide_true, decide_false, ne_eq, Nat.left_eq_add, Nat.add_eq_left, Nat.add_left_cancel_iff, Nat.add_zero]
theorem i_half {n : Nat} (hn : n < 2147483648) : Int32.ofNat n >>> (Int32.ofNat 1 &&& 31) = Int32.ofNat (n / 2) := by
  apply bvI_inj
  rw [bvI_sshr _ (by omega), bvI_of, bvI_of, if_pos (by omega)]
  omega
theorem AL_grow {h : MH_} {a arr : Nat} {xs : List Nat} (hl : Al h a arr xs) (hf : xs.length = ln_ h arr) (h34 : kd_ h arr = 34) (hc : ln_ h arr ≤ 300000) (hx : ∀ x ∈ xs, x < nx_ h ∧ 1 ≤ kd_ h x ∧ kd_ h x ≤ 14) (ha : a < nx_ h) (har : arr < nx_ h) (ne : ¬ a = arr) (hr : 1 ≤ rc_ h) (hs : ln_ h arr + max 1 (ln_ h arr / 2) ≤ rs_ h) : Wp 216 0 [.ref a] [] h (fun v h' => v = .inl (.ref (nx_ h)) ∧ Al h' a (nx_ h) xs ∧ ln_ h' (nx_ h) = ln_ h arr + max 1 (ln_ h arr / 2) ∧ nx_ h' = nx_ h + 1 ∧ Fa (fun b i => b = a ∧ i = 1) 1 (ln_ h arr + max 1 (ln_ h arr / 2)) h h') := by
  obtain ⟨a1, a2, a3, a4⟩ := hl
  rcases a4 with ⟨b1, b2, b3, b4⟩ | ⟨b1, b2, b3, b4, b5⟩
  · rw [h34] at b3; exact absurd b3 (by decide)
  · have hmx : max 1 (ln_ h arr / 2) ≤ 150000 := by omega
    have hgr : max (xs.length + 1 - ln_ h arr) (ln_ h arr / 2) = max 1 (ln_ h arr / 2) := by rw [hf, Nat.add_sub_cancel_left]
    simp (disch := omega) only [U216_0, U216_1, U216_2, U216_5, U216_6, U216_7, U216_10, U217_0, U217_1, U217_4, U217_5, U217_6, U217_7, U217_10, U217_11, U217_14, U217_17, U217_20, U217_21, U217_22, U217_23, U217_24, U217_25, U217_26, U217_27, U217_30, U217_31, U217_32, U217_33, U217_36, U217_37, U217_40, U217_41, U217_44, U217_45, U217_46, U217_48, U217_49, U217_52, U217_55, U217_56, U217_59, V217, a1, a2, a3, b1, i_half, ASup_newLength, V230, hgr, U222_0, U222_1, U222_2, U222_3, U222_6, U222_9, V222, show 0 < ln_ h arr by omega, show (30 : Nat) ≤ 34 by decide, show (34 : Nat) ≤ 38 by decide, i_add, i_mul, i_sub, i_addn, i_lt, i_eq, i_idx, i_vp, true_and, and_true, false_and, and_false, if_true, if_false, Nat.reduceAdd, Nat.reduceMul, Nat.reduceSub, Nat.reduceEqDiff, Option.some.injEq, exists_eq_left', true_or, or_true, false_or, or_false, not_true_eq_false, not_false_eq_true, eq_self, and_self, Nat.reduceLeDiff, decide_true, decide_false, ne_eq, Nat.left_eq_add, Nat.add_eq_left, Nat.add_left_cancel_iff, Nat.add_zero]
    have hL1 : ln_ h arr + max 1 (ln_ h arr / 2) ≤ 450000 := by omega
    have hL2 : ln_ h arr ≤ ln_ h arr + max 1 (ln_ h arr / 2) := by omega
    revert hs hL1 hL2
    generalize ln_ h arr + max 1 (ln_ h arr / 2) = M
    intro hs hL1 hL2
    have ek : ∀ i, i < ln_ h arr → ek_ (nw_ h 34 M M) (gP_ h arr i) = true := by
      intro i hi
      rw [b5 i (by omega)]
      have y := hx _ (List.getElem_mem (show i < xs.length by omega))
      show decide (1 ≤ kd_ (nw_ h 34 M M) xs[i] ∧ kd_ (nw_ h 34 M M) xs[i] ≤ 14) = true
      apply decide_eq_true
      rw [z_kd_nw, if_neg (by omega)]
      exact y.2
    simp (disch := omega) only [U223_0, U223_1, U223_3, U223_6, U223_7, U223_10, U223_13, U223_24, U223_25, U223_26, U223_27, U223_28, U223_29, U223_30, U223_31, U223_32, U223_35, U223_38, U223_39, V223, U222_0, U222_1, U222_2, U222_3, U222_6, U222_9, V222, U217_0, U217_1, U217_4, U217_5, U217_6, U217_7, U217_10, U217_11, U217_14, U217_17, U217_20, U217_21, U217_22, U217_23, U217_24, U217_25, U217_26, U217_27, U217_30, U217_31, U217_32, U217_33, U217_36, U217_37, U217_40, U217_41, U217_44, U217_45, U217_46, U217_48, U217_49, U217_52, U217_55, U217_56, U217_59, V217, U216_0, U216_1, U216_2, U216_5, U216_6, U216_7, U216_10, Math_min, V227, z_kd_sI, z_ln_sI, z_gI_sI, z_gJ_sI, z_gP_sI, z_nx_sI, z_rc_sI, z_rs_sI, z_em_sI, z_mi_sI, z_kd_sJ, z_ln_sJ, z_gI_sJ, z_gJ_sJ, z_gP_sJ, z_nx_sJ, z_rc_sJ, z_rs_sJ, z_em_sJ, z_mi_sJ, z_kd_sP, z_ln_sP, z_gI_sP, z_gJ_sP, z_gP_sP, z_nx_sP, z_rc_sP, z_rs_sP, z_em_sP, z_mi_sP, z_kd_nw, z_ln_nw, z_gI_nw, z_gJ_nw, z_gP_nw, z_nx_nw, z_rc_nw, z_rs_nw, z_em_nw, z_mi_nw, z_kd_cI, z_ln_cI, z_gI_cI, z_gJ_cI, z_gP_cI, z_nx_cI, z_rc_cI, z_rs_cI, z_em_cI, z_mi_cI, z_kd_cP, z_ln_cP, z_gI_cP, z_gJ_cP, z_gP_cP, z_nx_cP, z_rc_cP, z_rs_cP, z_em_cP, z_mi_cP, z_kd_wI, z_ln_wI, z_gI_wI, z_gJ_wI, z_gP_wI, z_nx_wI, z_rc_wI, z_rs_wI, z_em_wI, z_mi_wI, z_kd_wJ, z_ln_wJ, z_gI_wJ, z_gJ_wJ, z_gP_wJ, z_nx_wJ, z_rc_wJ, z_rs_wJ, z_em_wJ, z_mi_wJ, a1, b1, hr, hs, show ¬ a = nx_ h by omega, show ¬ arr = nx_ h by omega, show ¬ M < 0 by omega, show M ≤ 1000000 by omega, show ¬ ln_ h arr < 0 by omega, show ¬ (0 : Nat) < 0 by omega, Nat.min_eq_left hL2, Nat.zero_add, show (30 : Nat) ≤ 34 by decide, show (34 : Nat) ≤ 38 by decide, show ln_ h arr ≤ ln_ h arr from Nat.le_refl _, hL2, i_add, i_mul, i_sub, i_addn, i_lt, i_eq, i_idx, i_vp, true_and, and_true, false_and, and_false, if_true, if_false, Nat.reduceAdd, Nat.reduceMul, Nat.reduceSub, Nat.reduceEqDiff, Option.some.injEq, exists_eq_left', true_or, or_true, false_or, or_false, not_true_eq_false, not_false_eq_true, eq_self, and_self, Nat.reduceLeDiff, decide_true, decide_false, ne_eq, Nat.left_eq_add, Nat.add_eq_left, Nat.add_left_cancel_iff, Nat.add_zero]
    refine ⟨ek, ⟨?_, ?_, ?_, Or.inr ⟨?_, ?_, ?_, ?_, fun i hi => ?_⟩⟩, ?_⟩
    · show kd_ (nw_ h 34 M M) a = 14
      rw [z_kd_nw, if_neg (by omega), a1]
    · rw [z_gP_sP, if_pos ⟨rfl, rfl⟩]
    · show gI_ (nw_ h 34 M M) a 2 = _
      rw [z_gI_nw, if_neg (by omega), a3]
    · show kd_ (nw_ h 34 M M) (nx_ h) = 34
      rw [z_kd_nw, if_pos rfl]
    · show 10 ≤ ln_ (nw_ h 34 M M) (nx_ h)
      rw [z_ln_nw, if_pos rfl]; omega
    · show ln_ (nw_ h 34 M M) (nx_ h) ≤ 500000
      rw [z_ln_nw, if_pos rfl]; omega
    · show xs.length ≤ ln_ (nw_ h 34 M M) (nx_ h)
      rw [z_ln_nw, if_pos rfl]; omega
    · rw [z_gP_sP, if_neg (by omega), z_gP_cP, if_pos ⟨rfl, by omega, by omega⟩, z_gP_nw, if_neg (by omega), show 0 + (i - 0) = i by omega, b5 i hi]
    · refine ⟨?_, fun b hb => ?_, fun b hb => ?_, ?_, ?_, rfl, rfl, fun b i hb hs => ⟨?_, ?_, ?_⟩⟩
      · show nx_ h ≤ nx_ h + 1; omega
      · show kd_ (nw_ h 34 M M) b = _
        rw [z_kd_nw, if_neg (by omega)]
      · show ln_ (nw_ h 34 M M) b = _
        rw [z_ln_nw, if_neg (by omega)]
      · show rc_ h ≤ rc_ h - 1 + 1; omega
      · show rs_ h ≤ rs_ h - M + M; omega
      · show gI_ (nw_ h 34 M M) b i = _
        rw [z_gI_nw, if_neg (by omega)]
      · show gJ_ (nw_ h 34 M M) b i = _
        rw [z_gJ_nw, if_neg (by omega)]
      · rw [z_gP_sP, if_neg hs, z_gP_cP, if_neg (by omega), z_gP_nw, if_neg (by omega)]
theorem AL_grow_e {h : MH_} {a arr : Nat} (hl : Al h a arr []) (h38 : arr = em_ h ∧ kd_ h arr = 38 ∧ ln_ h arr = 0) (ha : a < nx_ h) (ne : ¬ a = arr) (hr : 1 ≤ rc_ h) (hs : 10 ≤ rs_ h) : Wp 216 0 [.ref a] [] h (fun v h' => v = .inl (.ref (nx_ h)) ∧ Al h' a (nx_ h) [] ∧ ln_ h' (nx_ h) = 10 ∧ nx_ h' = nx_ h + 1 ∧ Fa (fun b i => b = a ∧ i = 1) 1 10 h h') := by
  obtain ⟨a1, a2, a3, a4⟩ := hl
  obtain ⟨e1, e2, e3⟩ := h38
  rw [List.length_nil] at a3
  simp (disch := omega) only [U216_0, U216_1, U216_2, U216_5, U216_6, U216_7, U216_10, U217_0, U217_1, U217_4, U217_5, U217_6, U217_7, U217_10, U217_11, U217_14, U217_17, U217_20, U217_21, U217_22, U217_23, U217_24, U217_25, U217_26, U217_27, U217_30, U217_31, U217_32, U217_33, U217_36, U217_37, U217_40, U217_41, U217_44, U217_45, U217_46, U217_48, U217_49, U217_52, U217_55, U217_56, U217_59, V217, z_kd_sI, z_ln_sI, z_gI_sI, z_gJ_sI, z_gP_sI, z_nx_sI, z_rc_sI, z_rs_sI, z_em_sI, z_mi_sI, z_kd_sJ, z_ln_sJ, z_gI_sJ, z_gJ_sJ, z_gP_sJ, z_nx_sJ, z_rc_sJ, z_rs_sJ, z_em_sJ, z_mi_sJ, z_kd_sP, z_ln_sP, z_gI_sP, z_gJ_sP, z_gP_sP, z_nx_sP, z_rc_sP, z_rs_sP, z_em_sP, z_mi_sP, z_kd_nw, z_ln_nw, z_gI_nw, z_gJ_nw, z_gP_nw, z_nx_nw, z_rc_nw, z_rs_nw, z_em_nw, z_mi_nw, z_kd_cI, z_ln_cI, z_gI_cI, z_gJ_cI, z_gP_cI, z_nx_cI, z_rc_cI, z_rs_cI, z_em_cI, z_mi_cI, z_kd_cP, z_ln_cP, z_gI_cP, z_gJ_cP, z_gP_cP, z_nx_cP, z_rc_cP, z_rs_cP, z_em_cP, z_mi_cP, z_kd_wI, z_ln_wI, z_gI_wI, z_gJ_wI, z_gP_wI, z_nx_wI, z_rc_wI, z_rs_wI, z_em_wI, z_mi_wI, z_kd_wJ, z_ln_wJ, z_gI_wJ, z_gJ_wJ, z_gP_wJ, z_nx_wJ, z_rc_wJ, z_rs_wJ, z_em_wJ, z_mi_wJ, Math_max, V226, a1, a2, a3, e2, e3, ← e1, hr, hs, show ¬ a = nx_ h by omega, show ¬ (0 : Nat) < 0 by omega, show max 10 1 = 10 from rfl, show ¬ (10 : Nat) < 0 by omega, show (10 : Nat) ≤ 1000000 by decide, show (30 : Nat) ≤ 38 by decide, show (38 : Nat) ≤ 38 by decide, i_add, i_mul, i_sub, i_addn, i_lt, i_eq, i_idx, i_vp, true_and, and_true, false_and, and_false, if_true, if_false, Nat.reduceAdd, Nat.reduceMul, Nat.reduceSub, Nat.reduceEqDiff, Option.some.injEq, exists_eq_left', true_or, or_true, false_or, or_false, not_true_eq_false, not_false_eq_true, eq_self, and_self, Nat.reduceLeDiff, decide_true, decide_false, ne_eq, Nat.left_eq_add, Nat.add_eq_left, Nat.add_left_cancel_iff, Nat.add_zero]
  refine ⟨⟨?_, ?_, ?_, Or.inr ⟨?_, ?_, ?_, Nat.zero_le _, fun i hi => absurd hi (Nat.not_lt_zero _)⟩⟩, ?_⟩
  · show kd_ (nw_ h 34 10 10) a = 14
    rw [z_kd_nw, if_neg (by omega), a1]
  · rw [z_gP_sP, if_pos ⟨rfl, rfl⟩]
  · show gI_ (nw_ h 34 10 10) a 2 = _
    rw [z_gI_nw, if_neg (by omega), a3]; rfl
  · show kd_ (nw_ h 34 10 10) (nx_ h) = 34
    rw [z_kd_nw, if_pos rfl]
  · show 10 ≤ ln_ (nw_ h 34 10 10) (nx_ h)
    rw [z_ln_nw, if_pos rfl]; omega
  · show ln_ (nw_ h 34 10 10) (nx_ h) ≤ 500000
    rw [z_ln_nw, if_pos rfl]; omega
  · refine ⟨?_, fun b hb => ?_, fun b hb => ?_, ?_, ?_, rfl, rfl, fun b i hb hs => ⟨?_, ?_, ?_⟩⟩
    · show nx_ h ≤ nx_ h + 1; omega
    · show kd_ (nw_ h 34 10 10) b = _
      rw [z_kd_nw, if_neg (by omega)]
    · show ln_ (nw_ h 34 10 10) b = _
      rw [z_ln_nw, if_neg (by omega)]
    · show rc_ h ≤ rc_ h - 1 + 1; omega
    · show rs_ h ≤ rs_ h - 10 + 10; omega
    · show gI_ (nw_ h 34 10 10) b i = _
      rw [z_gI_nw, if_neg (by omega)]
    · show gJ_ (nw_ h 34 10 10) b i = _
      rw [z_gJ_nw, if_neg (by omega)]
    · rw [z_gP_sP, if_neg hs, z_gP_nw, if_neg (by omega)]
