/-! ===== ArrayList: add at a place ===== -/
def ins (xs : List Nat) (i x : Nat) : List Nat := xs.take i ++ x :: xs.drop i
theorem ins_len {xs : List Nat} {i x : Nat} (h : i ≤ xs.length) : (ins xs i x).length = xs.length + 1 := by
  unfold ins
  rw [List.length_append, List.length_cons, List.length_take, List.length_drop]
  omega
theorem ins_at {xs : List Nat} {i x j : Nat} (h : i ≤ xs.length) (hj : j < (ins xs i x).length) : (ins xs i x)[j]? = if j < i then xs[j]? else if j = i then some x else xs[j - 1]? := by
  unfold ins
  have hl : (xs.take i).length = i := by rw [List.length_take]; omega
  by_cases h1 : j < i
  · rw [if_pos h1, List.getElem?_append_left (by omega), List.getElem?_take, if_pos h1]
  · rw [if_neg h1, List.getElem?_append_right (by omega), hl]
    by_cases h2 : j = i
    · rw [if_pos h2, h2, Nat.sub_self]; rfl
    · rw [if_neg h2, show j - i = (j - i - 1) + 1 by omega, List.getElem?_cons_succ, List.getElem?_drop, show i + (j - i - 1) = j - 1 by omega]
theorem addAt_fin {u : MH_} {a ar x i : Nat} {xs : List Nat} (hl : Al u a ar xs) (hf : xs.length < ln_ u ar) (hk : 1 ≤ kd_ u x ∧ kd_ u x ≤ 14) (hx : ∀ x ∈ xs, 1 ≤ kd_ u x ∧ kd_ u x ≤ 14) (hi : i ≤ xs.length) (ne : ¬ a = ar) : Wp 210 38 [.ref a, .int (Int32.ofNat i), .ref x, .int (Int32.ofNat xs.length), .ref ar] [] u (fun v h' => v = .inl .null ∧ Al h' a ar (ins xs i x) ∧ Fy (SL a ar) u h') := by
  have hn := hl.len
  obtain ⟨a1, a2, a3, a4⟩ := hl
  rcases a4 with ⟨b1, b2, b3, b4⟩ | ⟨b1, b2, b3, b4, b5⟩
  · omega
  · have ek : ∀ j, j < xs.length - i → ek_ u (gP_ u ar (i + j)) = true := by
      intro j hj
      rw [b5 (i + j) (by omega)]
      exact decide_eq_true (hx _ (List.getElem_mem _))
    simp (disch := omega) only [U210_0, U210_1, U210_2, U210_5, U210_6, U210_7, U210_10, U210_11, U210_12, U210_15, U210_16, U210_19, U210_20, U210_21, U210_22, U210_25, U210_26, U210_28, U210_29, U210_32, U210_33, U210_36, U210_38, U210_40, U210_41, U210_43, U210_44, U210_45, U210_46, U210_47, U210_48, U210_49, U210_52, U210_54, U210_55, U210_56, U210_57, U210_58, U210_59, U210_60, U210_61, U210_64, z_kd_sI, z_ln_sI, z_gI_sI, z_gJ_sI, z_gP_sI, z_nx_sI, z_rc_sI, z_rs_sI, z_em_sI, z_mi_sI, z_kd_sJ, z_ln_sJ, z_gI_sJ, z_gJ_sJ, z_gP_sJ, z_nx_sJ, z_rc_sJ, z_rs_sJ, z_em_sJ, z_mi_sJ, z_kd_sP, z_ln_sP, z_gI_sP, z_gJ_sP, z_gP_sP, z_nx_sP, z_rc_sP, z_rs_sP, z_em_sP, z_mi_sP, z_kd_nw, z_ln_nw, z_gI_nw, z_gJ_nw, z_gP_nw, z_nx_nw, z_rc_nw, z_rs_nw, z_em_nw, z_mi_nw, z_kd_cI, z_ln_cI, z_gI_cI, z_gJ_cI, z_gP_cI, z_nx_cI, z_rc_cI, z_rs_cI, z_em_cI, z_mi_cI, z_kd_cP, z_ln_cP, z_gI_cP, z_gJ_cP, z_gP_cP, z_nx_cP, z_rc_cP, z_rs_cP, z_em_cP, z_mi_cP, z_kd_wI, z_ln_wI, z_gI_wI, z_gJ_wI, z_gP_wI, z_nx_wI, z_rc_wI, z_rs_wI, z_em_wI, z_mi_wI, z_kd_wJ, z_ln_wJ, z_gI_wJ, z_gJ_wJ, z_gP_wJ, z_nx_wJ, z_rc_wJ, z_rs_wJ, z_em_wJ, z_mi_wJ, a1, b1, hk.1, hk.2, show ¬ i < 0 by omega, show ¬ i + 1 < 0 by omega, show ¬ xs.length - i < 0 by omega, show i + (xs.length - i) ≤ ln_ u ar by omega, show i + 1 + (xs.length - i) ≤ ln_ u ar by omega, show i < ln_ u ar by omega, show ¬ (34 : Nat) = 30 by decide, i_add, i_mul, i_sub, i_addn, i_lt, i_eq, i_idx, i_vp, true_and, and_true, false_and, and_false, if_true, if_false, Nat.reduceAdd, Nat.reduceMul, Nat.reduceSub, Nat.reduceEqDiff, Option.some.injEq, exists_eq_left', true_or, or_true, false_or, or_false, not_true_eq_false, not_false_eq_true, eq_self, and_self, Nat.reduceLeDiff, decide_true, decide_false, ne_eq, Nat.left_eq_add, Nat.add_eq_left, Nat.add_left_cancel_iff, Nat.add_zero]
    refine ⟨ek, ⟨a1, ?_, ?_, Or.inr ⟨b1, b2, b3, ?_, fun j hj => ?_⟩⟩, ?_⟩
    · show gP_ (sP_ (cP_ u ar i ar (i + 1) (xs.length - i)) ar i (some x)) a 1 = some ar
      rw [z_gP_sP, if_neg (fun y => ne y.1), z_gP_cP, if_neg (fun y => ne y.1), a2]
    · rw [z_gI_sI, if_pos ⟨rfl, rfl⟩, ins_len hi]
    · rw [ins_len hi]
      show xs.length + 1 ≤ ln_ u ar
      omega
    · show gP_ (sP_ (cP_ u ar i ar (i + 1) (xs.length - i)) ar i (some x)) ar j = _
      have e := ins_at (x := x) hi hj
      rw [← List.getElem?_eq_getElem hj, e]
      rw [ins_len hi] at hj
      rw [z_gP_sP]
      by_cases h1 : j < i
      · rw [if_pos h1, if_neg (by omega), z_gP_cP, if_neg (by omega), b5 j (by omega), List.getElem?_eq_getElem]
      · rw [if_neg h1]
        by_cases h2 : j = i
        · rw [if_pos h2, if_pos ⟨rfl, h2⟩]
        · rw [if_neg h2, if_neg (by omega), z_gP_cP, if_pos ⟨rfl, by omega, by omega⟩, show i + (j - (i + 1)) = j - 1 by omega, b5 (j - 1) (by omega), List.getElem?_eq_getElem]
    · have z : Fy (SL a ar) u (cP_ u ar i ar (i + 1) (xs.length - i)) := by
        refine ⟨fun _ => rfl, fun _ => rfl, ⟨rfl, rfl, rfl, rfl, rfl⟩, fun b j hb => ⟨rfl, rfl, ?_⟩⟩
        rw [z_gP_cP, if_neg (fun y => hb (Or.inr y.1))]
      exact Fy.sI (Fy.sP z (Or.inr rfl)) (Or.inl ⟨rfl, Or.inr rfl⟩)
