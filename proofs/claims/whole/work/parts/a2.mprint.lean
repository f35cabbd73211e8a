/-! ===== the model: print, printDigits ===== -/
theorem dgF_at {b : Nat} : ∀ f v m k, k < (dgF b f v m).length → (dgF b f v m).getD k 0 = v / b ^ k % b := by
  intro f
  induction f with
  | zero => intro v m k h; exact absurd h (Nat.not_lt_zero _)
  | succ f ih =>
    intro v m k h
    unfold dgF at h ⊢
    by_cases c : 0 < v ∨ 0 < m
    · rw [if_pos c] at h ⊢
      cases k with
      | zero => rw [Nat.pow_zero, Nat.div_one]; rfl
      | succ k =>
        rw [List.length_cons] at h
        rw [List.getD_cons_succ, ih _ _ k (by omega), Nat.div_div_eq_div_mul, Nat.pow_succ, Nat.mul_comm b (b ^ k)]
    · rw [if_neg c] at h
      exact absurd h (Nat.not_lt_zero _)
theorem dgF_size {b : Nat} (hb : 1 < b) : ∀ f v m, v < b ^ f → m ≤ f → m ≤ (dgF b f v m).length ∧ v < b ^ (dgF b f v m).length ∧ (m < (dgF b f v m).length → b ^ ((dgF b f v m).length - 1) ≤ v) := by
  intro f
  induction f with
  | zero =>
    intro v m hv hm
    exact ⟨hm, hv, fun z => absurd z (Nat.not_lt_zero _)⟩
  | succ f ih =>
    intro v m hv hm
    unfold dgF
    by_cases c : 0 < v ∨ 0 < m
    · rw [if_pos c, List.length_cons]
      obtain ⟨a1, a2, a3⟩ := ih (v / b) (m - 1) (Nat.div_lt_of_lt_mul (by rw [Nat.mul_comm, ← Nat.pow_succ]; exact hv)) (by omega)
      generalize (dgF b f (v / b) (m - 1)).length = L at *
      refine ⟨by omega, ?_, fun z => ?_⟩
      · rw [Nat.pow_succ]
        exact (Nat.div_lt_iff_lt_mul (by omega)).mp a2
      · rw [Nat.add_sub_cancel]
        by_cases c2 : m - 1 < L
        · have a4 := a3 c2
          have := (Nat.le_div_iff_mul_le (by omega)).mp a4
          rw [← Nat.pow_succ, show (L - 1).succ = L by omega] at this
          exact this
        · obtain rfl : L = 0 := by omega
          rw [Nat.pow_zero]
          omega
    · rw [if_neg c]
      have : v = 0 := by omega
      subst this
      exact ⟨by rw [List.length_nil]; omega, by simp, fun z => absurd z (Nat.not_lt_zero _)⟩
theorem pow_lt {j : Nat} (h : j < 10) : 10 ^ j < 2147483648 := by
  have := Nat.pow_le_pow_right (show 0 < 10 by omega) (show j ≤ 9 by omega)
  omega
theorem j_mul {a b : Nat} : Int64.ofNat a * Int64.ofNat b = Int64.ofNat (a * b) := (Int64.ofNat_mul a b).symm
section
variable {h h' : MH_} {m : Nat} {S : Nat → Nat → Prop}
def Mp (h : MH_) (m : Nat) (l : List Nat) : Prop := gI_ h m 41 = Int32.ofNat l.length ∧ ∀ i, i < l.length → gI_ h (m + 31) i = Int32.ofNat (l.getD i 0)
def SJ (m : Nat) : Nat → Nat → Prop := fun a i => (a = m ∧ i = 41) ∨ a = m + 31
theorem M_print {b : Nat} {l : List Nat} (X0 : MS h m) (K : Mp h m l) (hl : l.length < 400) : Wp 181 0 [.ref m, .int (Int32.ofNat b)] [] h (fun v h' => v = .inl .null ∧ Mp h' m (l ++ [b]) ∧ Fz (SJ m) h h') := by
  simp (disch := omega) only [U181_0, U181_1, U181_4, U181_5, U181_8, U181_9, U181_10, U181_11, U181_12, U181_15, U181_16, U181_17, U181_20, z_kd_sI, z_ln_sI, z_gI_sI, z_gJ_sI, z_gP_sI, z_nx_sI, z_rc_sI, z_rs_sI, z_em_sI, z_mi_sI, z_kd_sJ, z_ln_sJ, z_gI_sJ, z_gJ_sJ, z_gP_sJ, z_nx_sJ, z_rc_sJ, z_rs_sJ, z_em_sJ, z_mi_sJ, z_kd_sP, z_ln_sP, z_gI_sP, z_gJ_sP, z_gP_sP, z_nx_sP, z_rc_sP, z_rs_sP, z_em_sP, z_mi_sP, z_kd_nw, z_ln_nw, z_gI_nw, z_gJ_nw, z_gP_nw, z_nx_nw, z_rc_nw, z_rs_nw, z_em_nw, z_mi_nw, z_kd_cI, z_ln_cI, z_gI_cI, z_gJ_cI, z_gP_cI, z_nx_cI, z_rc_cI, z_rs_cI, z_em_cI, z_mi_cI, z_kd_cP, z_ln_cP, z_gI_cP, z_gJ_cP, z_gP_cP, z_nx_cP, z_rc_cP, z_rs_cP, z_em_cP, z_mi_cP, z_kd_wI, z_ln_wI, z_gI_wI, z_gJ_wI, z_gP_wI, z_nx_wI, z_rc_wI, z_rs_wI, z_em_wI, z_mi_wI, z_kd_wJ, z_ln_wJ, z_gI_wJ, z_gJ_wJ, z_gP_wJ, z_nx_wJ, z_rc_wJ, z_rs_wJ, z_em_wJ, z_mi_wJ, X0.1, K.1, mp42 X0, mk31 X0, mn31 X0, hl, i_add, i_mul, i_sub, i_addn, i_lt, i_eq, i_idx, i_vp, true_and, and_true, false_and, and_false, if_true, if_false, Nat.reduceAdd, Nat.reduceMul, Nat.reduceSub, Nat.reduceEqDiff, Option.some.injEq, exists_eq_left', true_or, or_true, false_or, or_false, not_true_eq_false, not_false_eq_true, eq_self, and_self, Nat.reduceLeDiff, decide_true, decide_false, ne_eq, Nat.left_eq_add, Nat.add_eq_left, Nat.add_left_cancel_iff, Nat.add_zero]
  refine ⟨⟨by rw [z_gI_sI, if_pos ⟨rfl, rfl⟩, List.length_append]; rfl, fun i hi => ?_⟩, (Fz.rfl'.sI (Or.inr rfl)).sI (Or.inl ⟨rfl, rfl⟩)⟩
  rw [List.length_append, List.length_singleton] at hi
  rw [z_gI_sI, if_neg (by omega), z_gI_sI]
  by_cases hi2 : i = l.length
  · subst hi2; rw [if_pos ⟨rfl, rfl⟩, gD_app' (Nat.le_refl _), Nat.sub_self]; rfl
  · rw [if_neg (by omega), K.2 i (by omega), gD_app (by omega)]
theorem dg_10 {v p : Nat} (hv : v < 4294967296) (hp : p < 9) : p + 1 ≤ (dgF 10 12 v (p + 1)).length ∧ (dgF 10 12 v (p + 1)).length ≤ 10 ∧ v < 10 ^ (dgF 10 12 v (p + 1)).length ∧ (p + 1 < (dgF 10 12 v (p + 1)).length → 10 ^ ((dgF 10 12 v (p + 1)).length - 1) ≤ v) := by
  obtain ⟨a, b, c⟩ := dgF_size (b := 10) (by omega) 12 v (p + 1) (by omega) (by omega)
  refine ⟨a, ?_, b, c⟩
  generalize (dgF 10 12 v (p + 1)).length = L at *
  rcases Nat.lt_or_ge L 11 with z | z
  · omega
  · exfalso
    have h1 := c (by omega)
    have h2 := Nat.pow_le_pow_right (show 0 < 10 by omega) (show 10 ≤ L - 1 by omega)
    omega
theorem M_printDigits {v p : Nat} {l : List Nat} (X0 : MS h m) (K : Mp h m l) (hv : v < 4294967296) (hp : p < 9) (hl : l.length + 20 ≤ 400) : Wp 182 0 [.ref m, .long (Int64.ofNat v), .null, .int (Int32.ofNat (p + 1)), .int (Int32.ofNat p), .null, .null, .null] [] h (fun w h' => w = .inl .null ∧ Mp h' m (l ++ prD v p 10) ∧ Fz (SJ m) h h') := by
  obtain ⟨d1, d2, d3, d4⟩ := dg_10 hv hp
  have dat := dgF_at (b := 10) 12 v (p + 1)
  unfold prD
  generalize dgF 10 12 v (p + 1) = ds at *
  generalize hL : ds.length = L at *
  have up : ∀ (Q : Rs_ → MH_ → Prop), Wp 182 37 [.ref m, .long (Int64.ofNat v), .null, .int (Int32.ofNat (p + 1)), .int (Int32.ofNat p), .long (Int64.ofNat (10 ^ (L - 1))), .null, .int (Int32.ofNat L)] [] h Q → ∀ n j, j + 1 + n = L → Wp 182 6 [.ref m, .long (Int64.ofNat v), .null, .int (Int32.ofNat (p + 1)), .int (Int32.ofNat p), .long (Int64.ofNat (10 ^ j)), .null, .int (Int32.ofNat (j + 1))] [] h Q := by
    intro Q go n
    induction n with
    | zero =>
      intro j hj
      obtain rfl : L = j + 1 := by omega
      have pj := pow_lt (show j < 10 by omega)
      have pj0 := Nat.pow_pos (n := j) (show 0 < 10 by omega)
      have hle : ¬ 9 < v / 10 ^ j := by
        have : v / 10 ^ j < 10 := Nat.div_lt_of_lt_mul (by rw [← Nat.pow_succ]; exact d3)
        omega
      rw [Nat.add_sub_cancel] at go
      rw [U182_6]
      generalize 10 ^ j = u at *
      have hdv : v / u < 9223372036854775808 := Nat.lt_of_le_of_lt (Nat.div_le_self _ _) (by omega)
      simp (disch := omega) only [U182_8, U182_9, U182_12, U182_13, U182_15, U182_16, U182_19, U182_20, show ¬ j + 1 < p + 1 by omega, j_eq, show ¬ u = 0 by omega, j_div, c_gt, j_lt, hle, i_add, i_mul, i_sub, i_addn, i_lt, i_eq, i_idx, i_vp, true_and, and_true, false_and, and_false, if_true, if_false, Nat.reduceAdd, Nat.reduceMul, Nat.reduceSub, Nat.reduceEqDiff, Option.some.injEq, exists_eq_left', true_or, or_true, false_or, or_false, not_true_eq_false, not_false_eq_true, eq_self, and_self, Nat.reduceLeDiff, decide_true, decide_false, ne_eq, Nat.left_eq_add, Nat.add_eq_left, Nat.add_left_cancel_iff, Nat.add_zero]
      exact go
    | succ n ih =>
      intro j hj
      have pj := pow_lt (show j < 10 by omega)
      have pj0 := Nat.pow_pos (n := j) (show 0 < 10 by omega)
      have nx := ih (j + 1) (by omega)
      rw [Nat.pow_succ, Nat.mul_comm] at nx
      have hle : ¬ j + 1 < p + 1 → 9 < v / 10 ^ j := by
        intro z
        have h1 := d4 (by omega)
        have h2 := Nat.pow_le_pow_right (show 0 < 10 by omega) (show j + 1 ≤ L - 1 by omega)
        have : 10 ≤ v / 10 ^ j := (Nat.le_div_iff_mul_le pj0).mpr (by rw [Nat.mul_comm, ← Nat.pow_succ]; exact Nat.le_trans h2 h1)
        omega
      rw [U182_6]
      generalize 10 ^ j = u at *
      have hdv : v / u < 9223372036854775808 := Nat.lt_of_le_of_lt (Nat.div_le_self _ _) (by omega)
      by_cases c : j + 1 < p + 1
      · simp (disch := omega) only [U182_8, U182_9, U182_12, U182_13, U182_15, U182_16, U182_19, U182_20, U182_23, U182_26, U182_28, U182_29, U182_31, U182_34, c, j_mul, i_add, i_mul, i_sub, i_addn, i_lt, i_eq, i_idx, i_vp, true_and, and_true, false_and, and_false, if_true, if_false, Nat.reduceAdd, Nat.reduceMul, Nat.reduceSub, Nat.reduceEqDiff, Option.some.injEq, exists_eq_left', true_or, or_true, false_or, or_false, not_true_eq_false, not_false_eq_true, eq_self, and_self, Nat.reduceLeDiff, decide_true, decide_false, ne_eq, Nat.left_eq_add, Nat.add_eq_left, Nat.add_left_cancel_iff, Nat.add_zero]
        exact nx
      · simp (disch := omega) only [U182_8, U182_9, U182_12, U182_13, U182_15, U182_16, U182_19, U182_20, U182_23, U182_26, U182_28, U182_29, U182_31, U182_34, c, j_eq, show ¬ u = 0 by omega, j_div, c_gt, j_lt, hle c, j_mul, i_add, i_mul, i_sub, i_addn, i_lt, i_eq, i_idx, i_vp, true_and, and_true, false_and, and_false, if_true, if_false, Nat.reduceAdd, Nat.reduceMul, Nat.reduceSub, Nat.reduceEqDiff, Option.some.injEq, exists_eq_left', true_or, or_true, false_or, or_false, not_true_eq_false, not_false_eq_true, eq_self, and_self, Nat.reduceLeDiff, decide_true, decide_false, ne_eq, Nat.left_eq_add, Nat.add_eq_left, Nat.add_left_cancel_iff, Nat.add_zero]
        exact nx
  have down : ∀ k h1 l1, k ≤ L → Fz (SJ m) h h1 → Mp h1 m l1 → l1.length + 2 * k ≤ 400 → Wp 182 37 [.ref m, .long (Int64.ofNat v), .null, .int (Int32.ofNat (p + 1)), .int (Int32.ofNat p), .long (Int64.ofNat (if k = 0 then 0 else 10 ^ (k - 1))), .null, .int (Int32.ofNat k)] [] h1 (fun w h' => w = .inl .null ∧ Mp h' m (l1 ++ ((if k = p ∧ 0 < k then [46] else []) ++ otF ds p k)) ∧ Fz (SJ m) h h') := by
    intro k
    induction k with
    | zero =>
      intro h1 l1 hk f1 K1 hl1
      rw [if_pos rfl, if_neg (by omega), U182_37]
      simp (disch := omega) only [U182_39, U182_40, U182_41, U182_44, U182_46, U182_48, U182_51, U182_52, U182_54, U182_57, U182_58, U182_61, U182_62, U182_64, U182_65, U182_68, U182_69, U182_70, U182_71, U182_74, U182_77, U182_79, U182_82, U182_83, U182_85, U182_88, c_gt, j_lt, show ¬ (0 : Nat) < 0 by omega, i_add, i_mul, i_sub, i_addn, i_lt, i_eq, i_idx, i_vp, true_and, and_true, false_and, and_false, if_true, if_false, Nat.reduceAdd, Nat.reduceMul, Nat.reduceSub, Nat.reduceEqDiff, Option.some.injEq, exists_eq_left', true_or, or_true, false_or, or_false, not_true_eq_false, not_false_eq_true, eq_self, and_self, Nat.reduceLeDiff, decide_true, decide_false, ne_eq, Nat.left_eq_add, Nat.add_eq_left, Nat.add_left_cancel_iff, Nat.add_zero]
      refine ⟨?_, f1⟩
      show Mp h1 m (l1 ++ ([] ++ []))
      rw [List.append_nil, List.append_nil]
      exact K1
    | succ k ih =>
      intro h1 l1 hk f1 K1 hl1
      rw [if_neg (by omega), Nat.add_sub_cancel]
      have pj := pow_lt (show k < 10 by omega)
      have pj0 := Nat.pow_pos (n := k) (show 0 < 10 by omega)
      have dk := dat k (by omega)
      have hnext : 10 ^ k / 10 = if k = 0 then 0 else 10 ^ (k - 1) := by
        by_cases c : k = 0
        · subst c; rfl
        · rw [if_neg c]
          have e : 10 ^ k = 10 ^ (k - 1) * 10 := by rw [← Nat.pow_succ]; congr 1; omega
          rw [e, Nat.mul_div_cancel _ (by omega)]
      have hchr : chr (ds.getD k 0) = 48 + v / 10 ^ k % 10 := by rw [dk]; unfold chr; rw [if_pos (by omega)]
      have eot : otF ds p (k + 1) = chr (ds.getD k 0) :: ((if k = p ∧ 0 < k then [46] else []) ++ otF ds p k) := rfl
      rw [eot, hchr]
      -- the digit, and what follows
      have dig : ∀ h2 l2, Fz (SJ m) h h2 → Mp h2 m l2 → l2.length + 1 + 2 * k ≤ 400 → Wp 182 57 [.ref m, .long (Int64.ofNat v), .null, .int (Int32.ofNat (p + 1)), .int (Int32.ofNat p), .long (Int64.ofNat (10 ^ k)), .null, .int (Int32.ofNat (k + 1))] [] h2 (fun w h' => w = .inl .null ∧ Mp h' m (l2 ++ (48 + v / 10 ^ k % 10) :: ((if k = p ∧ 0 < k then [46] else []) ++ otF ds p k)) ∧ Fz (SJ m) h h') := by
        intro h2 l2 f2 K2 hl2
        have Y0 := X0.fz f2
        have ihk := ih
        rw [← hnext] at ihk
        generalize 10 ^ k = u at *
        have hdv : v / u < 9223372036854775808 := Nat.lt_of_le_of_lt (Nat.div_le_self _ _) (by omega)
        simp (disch := omega) only [U182_57, U182_58, U182_61, U182_62, U182_64, U182_65, U182_68, U182_69, U182_70, U182_71, j_eq, show ¬ u = 0 by omega, show ¬ (10 : Nat) = 0 by omega, j_div, j_rem, j_add, j_i, Y0.1, i_add, i_mul, i_sub, i_addn, i_lt, i_eq, i_idx, i_vp, true_and, and_true, false_and, and_false, if_true, if_false, Nat.reduceAdd, Nat.reduceMul, Nat.reduceSub, Nat.reduceEqDiff, Option.some.injEq, exists_eq_left', true_or, or_true, false_or, or_false, not_true_eq_false, not_false_eq_true, eq_self, and_self, Nat.reduceLeDiff, decide_true, decide_false, ne_eq, Nat.left_eq_add, Nat.add_eq_left, Nat.add_left_cancel_iff, Nat.add_zero]
        refine Wp_use (M_print Y0 K2 (by omega)) ?_
        rintro _ h3 ⟨rfl, K3, f3⟩
        simp (disch := omega) only [V181, U182_74, U182_77, U182_79, U182_82, U182_83, U182_85, j_eq, show ¬ (10 : Nat) = 0 by omega, j_div, i_addn, Nat.add_sub_cancel, i_add, i_mul, i_sub, i_addn, i_lt, i_eq, i_idx, i_vp, true_and, and_true, false_and, and_false, if_true, if_false, Nat.reduceAdd, Nat.reduceMul, Nat.reduceSub, Nat.reduceEqDiff, Option.some.injEq, exists_eq_left', true_or, or_true, false_or, or_false, not_true_eq_false, not_false_eq_true, eq_self, and_self, Nat.reduceLeDiff, decide_true, decide_false, ne_eq, Nat.left_eq_add, Nat.add_eq_left, Nat.add_left_cancel_iff, Nat.add_zero]
        have := ihk h3 _ (by omega) (f2.trans f3) K3 (by rw [List.length_append, List.length_singleton]; omega)
        rw [List.append_assoc] at this
        exact this
      rw [U182_37]
      by_cases c : k + 1 = p
      · rw [if_pos ⟨c, by omega⟩]
        have Y0 := X0.fz f1
        have dig' := dig
        generalize hu : 10 ^ k = u at *
        simp (disch := omega) only [U182_39, U182_40, U182_41, U182_44, U182_46, U182_48, U182_51, U182_52, U182_54, c_gt, j_lt, pj0, c, Y0.1, i_add, i_mul, i_sub, i_addn, i_lt, i_eq, i_idx, i_vp, true_and, and_true, false_and, and_false, if_true, if_false, Nat.reduceAdd, Nat.reduceMul, Nat.reduceSub, Nat.reduceEqDiff, Option.some.injEq, exists_eq_left', true_or, or_true, false_or, or_false, not_true_eq_false, not_false_eq_true, eq_self, and_self, Nat.reduceLeDiff, decide_true, decide_false, ne_eq, Nat.left_eq_add, Nat.add_eq_left, Nat.add_left_cancel_iff, Nat.add_zero]
        refine Wp_use (M_print Y0 K1 (by omega)) ?_
        rintro _ h2 ⟨rfl, K2, f2⟩
        simp (disch := omega) only [V181, true_and, and_true, false_and, and_false, if_true, if_false, Nat.reduceAdd, Nat.reduceMul, Nat.reduceSub, Nat.reduceEqDiff, Option.some.injEq, exists_eq_left', true_or, or_true, false_or, or_false, not_true_eq_false, not_false_eq_true, eq_self, and_self, Nat.reduceLeDiff, decide_true, decide_false, ne_eq, Nat.left_eq_add, Nat.add_eq_left, Nat.add_left_cancel_iff, Nat.add_zero]
        have := dig' h2 _ (f1.trans f2) K2 (by rw [List.length_append, List.length_singleton]; omega)
        rw [List.append_assoc, c] at this
        exact this
      · rw [if_neg (fun z => c z.1)]
        have dig' := dig h1 l1 f1 K1 (by omega)
        generalize hu : 10 ^ k = u at *
        simp (disch := omega) only [U182_39, U182_40, U182_41, U182_44, U182_46, U182_48, U182_51, U182_52, U182_54, c_gt, j_lt, pj0, c, i_add, i_mul, i_sub, i_addn, i_lt, i_eq, i_idx, i_vp, true_and, and_true, false_and, and_false, if_true, if_false, Nat.reduceAdd, Nat.reduceMul, Nat.reduceSub, Nat.reduceEqDiff, Option.some.injEq, exists_eq_left', true_or, or_true, false_or, or_false, not_true_eq_false, not_false_eq_true, eq_self, and_self, Nat.reduceLeDiff, decide_true, decide_false, ne_eq, Nat.left_eq_add, Nat.add_eq_left, Nat.add_left_cancel_iff, Nat.add_zero]
        exact dig'
  simp (disch := omega) only [U182_0, U182_1, U182_3, U182_4, i_add, i_mul, i_sub, i_addn, i_lt, i_eq, i_idx, i_vp, true_and, and_true, false_and, and_false, if_true, if_false, Nat.reduceAdd, Nat.reduceMul, Nat.reduceSub, Nat.reduceEqDiff, Option.some.injEq, exists_eq_left', true_or, or_true, false_or, or_false, not_true_eq_false, not_false_eq_true, eq_self, and_self, Nat.reduceLeDiff, decide_true, decide_false, ne_eq, Nat.left_eq_add, Nat.add_eq_left, Nat.add_left_cancel_iff, Nat.add_zero]
  have fin := down L h l (by omega) Fz.rfl' K (by omega)
  rw [if_neg (show ¬ L = 0 by omega), if_neg (show ¬ (L = p ∧ 0 < L) by omega), List.nil_append] at fin
  exact up _ fin (L - 1) 0 (by omega)
end
