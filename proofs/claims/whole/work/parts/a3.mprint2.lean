/-! ===== the model: printSigned, printHex ===== -/
theorem lt64 (x : Int32) : x < Int32.ofNat 0 ↔ x.toInt64 < Int64.ofNat 0 := by
  rw [Int64.lt_iff_toInt_lt, Int32.toInt_toInt64, show (Int64.ofNat 0).toInt = 0 by decide, Int32.lt_iff_toInt_lt, show (Int32.ofNat 0).toInt = 0 by decide]
theorem pow16_lt {j : Nat} (h : j < 8) : 16 ^ j < 2147483648 := by
  have := Nat.pow_le_pow_right (show 0 < 16 by omega) (show j ≤ 7 by omega)
  omega
theorem dg_16 {v : Nat} (hv : v < 4294967296) : 1 ≤ (dgF 16 12 v (0 + 1)).length ∧ (dgF 16 12 v (0 + 1)).length ≤ 8 ∧ v < 16 ^ (dgF 16 12 v (0 + 1)).length ∧ (1 < (dgF 16 12 v (0 + 1)).length → 16 ^ ((dgF 16 12 v (0 + 1)).length - 1) ≤ v) := by
  obtain ⟨a, b, c⟩ := dgF_size (b := 16) (by omega) 12 v (0 + 1) (by omega) (by omega)
  refine ⟨a, ?_, b, c⟩
  generalize (dgF 16 12 v (0 + 1)).length = L at *
  rcases Nat.lt_or_ge L 9 with z | z
  · omega
  · exfalso
    have h1 := c (by omega)
    have h2 := Nat.pow_le_pow_right (show 0 < 16 by omega) (show 8 ≤ L - 1 by omega)
    omega
section
variable {h h' : MH_} {m : Nat} {S : Nat → Nat → Prop}
theorem M_printSigned {p : Nat} {x : Int32} {l : List Nat} (X0 : MS h m) (K : Mp h m l) (hp : p < 9) (hl : l.length + 21 ≤ 400) : Wp 186 0 [.ref m, .int x, .int (Int32.ofNat (p + 1)), .int (Int32.ofNat p), .null, .null] [] h (fun w h' => w = .inl .null ∧ Mp h' m (l ++ prS x p) ∧ Fz (SJ m) h h') := by
  have h1 := x.le_toInt
  have h2 := x.toInt_lt
  have ab := abs64 x
  unfold prS
  by_cases hx : x < Int32.ofNat 0
  · rw [if_pos hx]
    rw [if_pos ((lt64 x).mp hx)] at ab
    simp (disch := omega) only [U186_0, U186_1, U186_2, U186_4, U186_5, U186_8, U186_9, U186_11, hx, X0.1, true_and, and_true, false_and, and_false, if_true, if_false, Nat.reduceAdd, Nat.reduceMul, Nat.reduceSub, Nat.reduceEqDiff, Option.some.injEq, exists_eq_left', true_or, or_true, false_or, or_false, not_true_eq_false, not_false_eq_true, eq_self, and_self, Nat.reduceLeDiff, decide_true, decide_false, ne_eq, Nat.left_eq_add, Nat.add_eq_left, Nat.add_left_cancel_iff, Nat.add_zero]
    refine Wp_use (M_print X0 K (by omega)) ?_
    rintro _ h3 ⟨rfl, K3, f3⟩
    have Y0 := X0.fz f3
    simp (disch := omega) only [V181, U186_14, U186_16, U186_17, U186_19, U186_20, U186_22, U186_23, U186_24, ab, Y0.1, true_and, and_true, false_and, and_false, if_true, if_false, Nat.reduceAdd, Nat.reduceMul, Nat.reduceSub, Nat.reduceEqDiff, Option.some.injEq, exists_eq_left', true_or, or_true, false_or, or_false, not_true_eq_false, not_false_eq_true, eq_self, and_self, Nat.reduceLeDiff, decide_true, decide_false, ne_eq, Nat.left_eq_add, Nat.add_eq_left, Nat.add_left_cancel_iff, Nat.add_zero]
    refine Wp_use (M_printDigits Y0 K3 (by omega) hp (by rw [List.length_append, List.length_singleton]; omega)) ?_
    rintro _ h4 ⟨rfl, K4, f4⟩
    simp (disch := omega) only [V182, U186_27, true_and, and_true, false_and, and_false, if_true, if_false, Nat.reduceAdd, Nat.reduceMul, Nat.reduceSub, Nat.reduceEqDiff, Option.some.injEq, exists_eq_left', true_or, or_true, false_or, or_false, not_true_eq_false, not_false_eq_true, eq_self, and_self, Nat.reduceLeDiff, decide_true, decide_false, ne_eq, Nat.left_eq_add, Nat.add_eq_left, Nat.add_left_cancel_iff, Nat.add_zero]
    rw [List.append_assoc] at K4
    exact ⟨K4, f3.trans f4⟩
  · rw [if_neg hx, List.nil_append]
    rw [if_neg (fun z => hx ((lt64 x).mpr z))] at ab
    simp (disch := omega) only [U186_0, U186_1, U186_2, U186_4, U186_5, U186_8, U186_9, U186_11, U186_14, U186_16, U186_17, U186_19, U186_20, U186_22, U186_23, U186_24, hx, X0.1, ab, true_and, and_true, false_and, and_false, if_true, if_false, Nat.reduceAdd, Nat.reduceMul, Nat.reduceSub, Nat.reduceEqDiff, Option.some.injEq, exists_eq_left', true_or, or_true, false_or, or_false, not_true_eq_false, not_false_eq_true, eq_self, and_self, Nat.reduceLeDiff, decide_true, decide_false, ne_eq, Nat.left_eq_add, Nat.add_eq_left, Nat.add_left_cancel_iff, Nat.add_zero]
    refine Wp_use (M_printDigits X0 K (by omega) hp (by omega)) ?_
    rintro _ h4 ⟨rfl, K4, f4⟩
    simp (disch := omega) only [V182, U186_27, true_and, and_true, false_and, and_false, if_true, if_false, Nat.reduceAdd, Nat.reduceMul, Nat.reduceSub, Nat.reduceEqDiff, Option.some.injEq, exists_eq_left', true_or, or_true, false_or, or_false, not_true_eq_false, not_false_eq_true, eq_self, and_self, Nat.reduceLeDiff, decide_true, decide_false, ne_eq, Nat.left_eq_add, Nat.add_eq_left, Nat.add_left_cancel_iff, Nat.add_zero]
    exact ⟨K4, f4⟩
theorem M_printHex {x : Int32} {l : List Nat} (X0 : MS h m) (K : Mp h m l) (hl : l.length + 20 ≤ 400) : Wp 184 0 [.ref m, .int x, .null, .null, .null, .null, .null] [] h (fun w h' => w = .inl .null ∧ Mp h' m (l ++ prD (bvI x) 0 16) ∧ Fz (SJ m) h h') := by
  have hv := bvI_lt x
  have mk := mask32 x
  generalize bvI x = v at *
  obtain ⟨d1, d2, d3, d4⟩ := dg_16 hv
  have dat := dgF_at (b := 16) 12 v (0 + 1)
  have dlt := dgF_lt (base := 16) (by omega) 12 v (0 + 1)
  unfold prD
  generalize dgF 16 12 v (0 + 1) = ds at *
  generalize hL : ds.length = L at *
  have up : ∀ (Q : Rs_ → MH_ → Prop), Wp 184 32 [.ref m, .int x, .long (Int64.ofNat v), .null, .long (Int64.ofNat (16 ^ (L - 1))), .null, .null] [] h Q → ∀ n j, j + 1 + n = L → Wp 184 10 [.ref m, .int x, .long (Int64.ofNat v), .null, .long (Int64.ofNat (16 ^ j)), .null, .null] [] h Q := by
    intro Q go n
    induction n with
    | zero =>
      intro j hj
      obtain rfl : L = j + 1 := by omega
      have pj := pow16_lt (show j < 8 by omega)
      have pj0 := Nat.pow_pos (n := j) (show 0 < 16 by omega)
      have hle : ¬ 15 < v / 16 ^ j := by
        have : v / 16 ^ j < 16 := Nat.div_lt_of_lt_mul (by rw [← Nat.pow_succ]; exact d3)
        omega
      rw [Nat.add_sub_cancel] at go
      rw [U184_10]
      generalize 16 ^ j = u at *
      have hdv : v / u < 9223372036854775808 := Nat.lt_of_le_of_lt (Nat.div_le_self _ _) (by omega)
      simp (disch := omega) only [U184_11, U184_13, U184_14, U184_17, U184_18, U184_21, U184_24, U184_26, U184_27, U184_29, j_eq, show ¬ u = 0 by omega, j_div, c_gt, j_lt, hle, i_add, i_mul, i_sub, i_addn, i_lt, i_eq, i_idx, i_vp, true_and, and_true, false_and, and_false, if_true, if_false, Nat.reduceAdd, Nat.reduceMul, Nat.reduceSub, Nat.reduceEqDiff, Option.some.injEq, exists_eq_left', true_or, or_true, false_or, or_false, not_true_eq_false, not_false_eq_true, eq_self, and_self, Nat.reduceLeDiff, decide_true, decide_false, ne_eq, Nat.left_eq_add, Nat.add_eq_left, Nat.add_left_cancel_iff, Nat.add_zero]
      exact go
    | succ n ih =>
      intro j hj
      have pj := pow16_lt (show j < 8 by omega)
      have pj0 := Nat.pow_pos (n := j) (show 0 < 16 by omega)
      have nx := ih (j + 1) (by omega)
      rw [Nat.pow_succ, Nat.mul_comm] at nx
      have hle : 15 < v / 16 ^ j := by
        have h1 := d4 (by omega)
        have h2 := Nat.pow_le_pow_right (show 0 < 16 by omega) (show j + 1 ≤ L - 1 by omega)
        have : 16 ≤ v / 16 ^ j := (Nat.le_div_iff_mul_le pj0).mpr (by rw [Nat.mul_comm, ← Nat.pow_succ]; exact Nat.le_trans h2 h1)
        omega
      rw [U184_10]
      generalize 16 ^ j = u at *
      have hdv : v / u < 9223372036854775808 := Nat.lt_of_le_of_lt (Nat.div_le_self _ _) (by omega)
      simp (disch := omega) only [U184_11, U184_13, U184_14, U184_17, U184_18, U184_21, U184_24, U184_26, U184_27, U184_29, j_eq, show ¬ u = 0 by omega, j_div, c_gt, j_lt, hle, j_mul, i_add, i_mul, i_sub, i_addn, i_lt, i_eq, i_idx, i_vp, true_and, and_true, false_and, and_false, if_true, if_false, Nat.reduceAdd, Nat.reduceMul, Nat.reduceSub, Nat.reduceEqDiff, Option.some.injEq, exists_eq_left', true_or, or_true, false_or, or_false, not_true_eq_false, not_false_eq_true, eq_self, and_self, Nat.reduceLeDiff, decide_true, decide_false, ne_eq, Nat.left_eq_add, Nat.add_eq_left, Nat.add_left_cancel_iff, Nat.add_zero]
      exact nx
  have down : ∀ k h1 l1 y, k ≤ L → Fz (SJ m) h h1 → Mp h1 m l1 → l1.length + k ≤ 400 → Wp 184 32 [.ref m, .int x, .long (Int64.ofNat v), .null, .long (Int64.ofNat (if k = 0 then 0 else 16 ^ (k - 1))), .null, y] [] h1 (fun w h' => w = .inl .null ∧ Mp h' m (l1 ++ otF ds 0 k) ∧ Fz (SJ m) h h') := by
    intro k
    induction k with
    | zero =>
      intro h1 l1 y hk f1 K1 hl1
      rw [if_pos rfl, U184_32]
      simp (disch := omega) only [U184_34, U184_35, U184_36, U184_39, U184_40, U184_42, U184_43, U184_46, U184_47, U184_48, U184_50, U184_51, U184_53, U184_55, U184_58, U184_60, U184_62, U184_63, U184_66, U184_68, U184_70, U184_71, U184_74, U184_76, U184_79, U184_80, U184_82, U184_85, c_gt, j_lt, show ¬ (0 : Nat) < 0 by omega, i_add, i_mul, i_sub, i_addn, i_lt, i_eq, i_idx, i_vp, true_and, and_true, false_and, and_false, if_true, if_false, Nat.reduceAdd, Nat.reduceMul, Nat.reduceSub, Nat.reduceEqDiff, Option.some.injEq, exists_eq_left', true_or, or_true, false_or, or_false, not_true_eq_false, not_false_eq_true, eq_self, and_self, Nat.reduceLeDiff, decide_true, decide_false, ne_eq, Nat.left_eq_add, Nat.add_eq_left, Nat.add_left_cancel_iff, Nat.add_zero]
      refine ⟨?_, f1⟩
      show Mp h1 m (l1 ++ [])
      rw [List.append_nil]
      exact K1
    | succ k ih =>
      intro h1 l1 y hk f1 K1 hl1
      rw [if_neg (by omega), Nat.add_sub_cancel]
      have pj := pow16_lt (show k < 8 by omega)
      have pj0 := Nat.pow_pos (n := k) (show 0 < 16 by omega)
      have dk := dat k (by omega)
      have hnext : 16 ^ k / 16 = if k = 0 then 0 else 16 ^ (k - 1) := by
        by_cases c : k = 0
        · subst c; rfl
        · rw [if_neg c]
          have e : 16 ^ k = 16 ^ (k - 1) * 16 := by rw [← Nat.pow_succ]; congr 1; omega
          rw [e, Nat.mul_div_cancel _ (by omega)]
      have eot : otF ds 0 (k + 1) = chr (v / 16 ^ k % 16) :: otF ds 0 k := by
        rw [← dk]
        show chr (ds.getD k 0) :: ((if k = 0 ∧ 0 < k then [46] else []) ++ otF ds 0 k) = _
        rw [if_neg (by omega), List.nil_append]
      rw [eot]
      have Y0 := X0.fz f1
      have ihk := ih
      rw [← hnext] at ihk
      rw [U184_32]
      generalize 16 ^ k = u at *
      have hdv : v / u < 9223372036854775808 := Nat.lt_of_le_of_lt (Nat.div_le_self _ _) (by omega)
      have hx16 : v / u % 16 < 16 := Nat.mod_lt _ (by omega)
      have e1 := hdv
      have go : ∀ y2, Wp 181 0 [.ref m, .int (Int32.ofNat (chr (v / u % 16)))] [] h1 (bk_ Wp 184 71 0 181 [.ref m, .int x, .long (Int64.ofNat v), .null, .long (Int64.ofNat u), .null, .int y2] [] (fun w h' => w = .inl .null ∧ Mp h' m (l1 ++ chr (v / u % 16) :: otF ds 0 k) ∧ Fz (SJ m) h h')) := by
        intro y2
        refine Wp_use (M_print Y0 K1 (by omega)) ?_
        rintro _ h3 ⟨rfl, K3, f3⟩
        simp (disch := omega) only [V181, U184_74, U184_76, U184_79, U184_80, U184_82, j_eq, show ¬ (16 : Nat) = 0 by omega, j_div, i_add, i_mul, i_sub, i_addn, i_lt, i_eq, i_idx, i_vp, true_and, and_true, false_and, and_false, if_true, if_false, Nat.reduceAdd, Nat.reduceMul, Nat.reduceSub, Nat.reduceEqDiff, Option.some.injEq, exists_eq_left', true_or, or_true, false_or, or_false, not_true_eq_false, not_false_eq_true, eq_self, and_self, Nat.reduceLeDiff, decide_true, decide_false, ne_eq, Nat.left_eq_add, Nat.add_eq_left, Nat.add_left_cancel_iff, Nat.add_zero]
        have := ihk h3 _ (.int y2) (by omega) (f1.trans f3) K3 (by rw [List.length_append, List.length_singleton]; omega)
        rw [List.append_assoc] at this
        exact this
      unfold chr at go
      by_cases c : v / u % 16 < 10
      · rw [if_pos c] at go
        unfold chr
        rw [if_pos c]
        simp (disch := omega) only [U184_34, U184_35, U184_36, U184_39, U184_40, U184_42, U184_43, U184_46, U184_47, U184_48, U184_50, U184_51, U184_53, U184_55, U184_58, U184_60, U184_62, U184_63, U184_66, U184_68, U184_70, U184_71, c_gt, j_lt, pj0, j_eq, show ¬ u = 0 by omega, show ¬ (16 : Nat) = 0 by omega, j_div, j_rem, j_i, c, Y0.1, i_add, i_mul, i_sub, i_addn, i_lt, i_eq, i_idx, i_vp, true_and, and_true, false_and, and_false, if_true, if_false, Nat.reduceAdd, Nat.reduceMul, Nat.reduceSub, Nat.reduceEqDiff, Option.some.injEq, exists_eq_left', true_or, or_true, false_or, or_false, not_true_eq_false, not_false_eq_true, eq_self, and_self, Nat.reduceLeDiff, decide_true, decide_false, ne_eq, Nat.left_eq_add, Nat.add_eq_left, Nat.add_left_cancel_iff, Nat.add_zero]
        exact go _
      · rw [if_neg c] at go
        unfold chr
        rw [if_neg c]
        simp (disch := omega) only [U184_34, U184_35, U184_36, U184_39, U184_40, U184_42, U184_43, U184_46, U184_47, U184_48, U184_50, U184_51, U184_53, U184_55, U184_58, U184_60, U184_62, U184_63, U184_66, U184_68, U184_70, U184_71, c_gt, j_lt, pj0, j_eq, show ¬ u = 0 by omega, show ¬ (16 : Nat) = 0 by omega, j_div, j_rem, j_i, c, Y0.1, i_add, i_mul, i_sub, i_addn, i_lt, i_eq, i_idx, i_vp, true_and, and_true, false_and, and_false, if_true, if_false, Nat.reduceAdd, Nat.reduceMul, Nat.reduceSub, Nat.reduceEqDiff, Option.some.injEq, exists_eq_left', true_or, or_true, false_or, or_false, not_true_eq_false, not_false_eq_true, eq_self, and_self, Nat.reduceLeDiff, decide_true, decide_false, ne_eq, Nat.left_eq_add, Nat.add_eq_left, Nat.add_left_cancel_iff, Nat.add_zero]
        exact go _
  simp (disch := omega) only [U184_0, U184_1, U184_2, U184_5, U184_6, U184_7, U184_8, mk, i_add, i_mul, i_sub, i_addn, i_lt, i_eq, i_idx, i_vp, true_and, and_true, false_and, and_false, if_true, if_false, Nat.reduceAdd, Nat.reduceMul, Nat.reduceSub, Nat.reduceEqDiff, Option.some.injEq, exists_eq_left', true_or, or_true, false_or, or_false, not_true_eq_false, not_false_eq_true, eq_self, and_self, Nat.reduceLeDiff, decide_true, decide_false, ne_eq, Nat.left_eq_add, Nat.add_eq_left, Nat.add_left_cancel_iff, Nat.add_zero]
  have fin := down L h l .null (by omega) Fz.rfl' K (by omega)
  rw [if_neg (show ¬ L = 0 by omega)] at fin
  exact up _ fin (L - 1) 0 (by omega)
end
