/-! ===== the model: printNamed ===== -/
section
variable {h h' : MH_} {m : Nat} {S : Nat → Nat → Prop} {nm : Nat → List Nat}
/-- a named number's text -/
def nmP (nm : Nat → List Nat) (d : Nat) (x : Int32) : List Nat := if x < Int32.ofNat 0 ∨ ¬ x < Int32.ofNat 32 ∨ nm (d * 32 + x.toNatClampNeg) = [] then prS x 0 else nm (d * 32 + x.toNatClampNeg)
theorem M_printNamed {d : Nat} {x : Int32} {l : List Nat} (X0 : MS h m) (X3 : MN h m nm) (K : Mp h m l) (hd : d < 8) (hl : l.length + 21 ≤ 400) : Wp 185 0 [.ref m, .int (Int32.ofNat d), .int x, .null, .null] [] h (fun w h' => w = .inl .null ∧ Mp h' m (l ++ nmP nm d x) ∧ Fz (SJ m) h h') := by
  unfold nmP
  -- no name: the number
  have none_ : Wp 185 26 [.ref m, .int (Int32.ofNat d), .int x, .int (Int32.ofNat 0), .null] [] h (fun w h' => w = .inl .null ∧ Mp h' m (l ++ prS x 0) ∧ Fz (SJ m) h h') := by
    simp (disch := omega) only [U185_26, U185_27, U185_30, U185_31, U185_32, U185_33, U185_34, X0.1, i_add, i_mul, i_sub, i_addn, i_lt, i_eq, i_idx, i_vp, true_and, and_true, false_and, and_false, if_true, if_false, Nat.reduceAdd, Nat.reduceMul, Nat.reduceSub, Nat.reduceEqDiff, Option.some.injEq, exists_eq_left', true_or, or_true, false_or, or_false, not_true_eq_false, not_false_eq_true, eq_self, and_self, Nat.reduceLeDiff, decide_true, decide_false, ne_eq, Nat.left_eq_add, Nat.add_eq_left, Nat.add_left_cancel_iff, Nat.add_zero]
    have ps := M_printSigned (p := 0) (x := x) X0 K (by omega) (by omega)
    rw [Nat.zero_add] at ps
    refine Wp_use ps ?_
    rintro _ h3 ⟨rfl, K3, f3⟩
    simp (disch := omega) only [V186, U185_37, U185_38, true_and, and_true, false_and, and_false, if_true, if_false, Nat.reduceAdd, Nat.reduceMul, Nat.reduceSub, Nat.reduceEqDiff, Option.some.injEq, exists_eq_left', true_or, or_true, false_or, or_false, not_true_eq_false, not_false_eq_true, eq_self, and_self, Nat.reduceLeDiff, decide_true, decide_false, ne_eq, Nat.left_eq_add, Nat.add_eq_left, Nat.add_left_cancel_iff, Nat.add_zero]
    rw [U185_40]
    simp (disch := omega) only [U185_42, U185_43, U185_46, U185_47, U185_48, U185_51, U185_53, U185_55, U185_56, U185_57, U185_58, U185_59, U185_60, U185_62, U185_63, U185_64, U185_67, U185_70, U185_73, show ¬ (0 : Nat) < 0 by omega, i_add, i_mul, i_sub, i_addn, i_lt, i_eq, i_idx, i_vp, true_and, and_true, false_and, and_false, if_true, if_false, Nat.reduceAdd, Nat.reduceMul, Nat.reduceSub, Nat.reduceEqDiff, Option.some.injEq, exists_eq_left', true_or, or_true, false_or, or_false, not_true_eq_false, not_false_eq_true, eq_self, and_self, Nat.reduceLeDiff, decide_true, decide_false, ne_eq, Nat.left_eq_add, Nat.add_eq_left, Nat.add_left_cancel_iff, Nat.add_zero]
    exact ⟨K3, f3⟩
  by_cases c1 : x < Int32.ofNat 0
  · rw [if_pos (Or.inl c1)]
    have b : bz (¬ x < Int32.ofNat 0 ∧ ¬ Int32.ofNat 31 < x) = Int32.ofNat 0 := by rw [bz_0]; exact fun z => z.1 c1
    simp (disch := omega) only [U185_0, U185_1, U185_2, U185_4, U185_7, U185_10, U185_11, U185_14, U185_16, U185_17, U185_18, U185_19, U185_20, U185_21, U185_24, U185_25, M_within, V207, b, i_add, i_mul, i_sub, i_addn, i_lt, i_eq, i_idx, i_vp, true_and, and_true, false_and, and_false, if_true, if_false, Nat.reduceAdd, Nat.reduceMul, Nat.reduceSub, Nat.reduceEqDiff, Option.some.injEq, exists_eq_left', true_or, or_true, false_or, or_false, not_true_eq_false, not_false_eq_true, eq_self, and_self, Nat.reduceLeDiff, decide_true, decide_false, ne_eq, Nat.left_eq_add, Nat.add_eq_left, Nat.add_left_cancel_iff, Nat.add_zero]
    exact none_
  · obtain ⟨q, hq, rfl⟩ := i_nat c1
    have eq := i_idx hq
    rw [eq]
    by_cases c2 : q < 32
    · have wi : ∀ {Q : Rs_ → MH_ → Prop}, Wp 207 0 [.int (Int32.ofNat q), .int (Int32.ofNat 0), .int (Int32.ofNat 31)] [] h Q ↔ Q (.inl (.int (Int32.ofNat 1))) h := by
        intro Q
        rw [M_within, ← bz_t ⟨c1, by rw [i_lt (by omega) (by omega)]; omega⟩]
      obtain ⟨n1, n2, n3, n4⟩ := X3 (32 * d + q) (by omega)
      rw [show d * 32 + q = 32 * d + q by omega]
      have hq32 : Int32.ofNat q < Int32.ofNat 32 := by rw [i_lt (by omega) (by omega)]; exact c2
      by_cases c3 : nm (32 * d + q) = []
      · rw [if_pos (Or.inr (Or.inr c3))]
        rw [c3] at n1
        simp (disch := omega) only [U185_0, U185_1, U185_2, U185_4, U185_7, U185_10, U185_11, U185_14, U185_16, U185_17, U185_18, U185_19, U185_20, U185_21, U185_24, U185_25, wi, V207, X0.1, mp6 X0, mk4 X0, mn4 X0, n1, List.length_nil, show ¬ (1 : Nat) = 0 by omega, show 32 * d + q < 256 by omega, i_add, i_mul, i_sub, i_addn, i_lt, i_eq, i_idx, i_vp, true_and, and_true, false_and, and_false, if_true, if_false, Nat.reduceAdd, Nat.reduceMul, Nat.reduceSub, Nat.reduceEqDiff, Option.some.injEq, exists_eq_left', true_or, or_true, false_or, or_false, not_true_eq_false, not_false_eq_true, eq_self, and_self, Nat.reduceLeDiff, decide_true, decide_false, ne_eq, Nat.left_eq_add, Nat.add_eq_left, Nat.add_left_cancel_iff, Nat.add_zero]
        exact none_
      · rw [if_neg (show ¬ (Int32.ofNat q < Int32.ofNat 0 ∨ ¬ Int32.ofNat q < Int32.ofNat 32 ∨ nm (32 * d + q) = []) from fun z => z.elim c1 (fun z => z.elim (fun z => z hq32) c3))]
        simp (disch := omega) only [U185_0, U185_1, U185_2, U185_4, U185_7, U185_10, U185_11, U185_14, U185_16, U185_17, U185_18, U185_19, U185_20, U185_21, U185_24, U185_25, wi, V207, X0.1, mp6 X0, mk4 X0, mn4 X0, n1, show ¬ (1 : Nat) = 0 by omega, show 32 * d + q < 256 by omega, i_add, i_mul, i_sub, i_addn, i_lt, i_eq, i_idx, i_vp, true_and, and_true, false_and, and_false, if_true, if_false, Nat.reduceAdd, Nat.reduceMul, Nat.reduceSub, Nat.reduceEqDiff, Option.some.injEq, exists_eq_left', true_or, or_true, false_or, or_false, not_true_eq_false, not_false_eq_true, eq_self, and_self, Nat.reduceLeDiff, decide_true, decide_false, ne_eq, Nat.left_eq_add, Nat.add_eq_left, Nat.add_left_cancel_iff, Nat.add_zero]
        have hP : 32 * d + q < 256 := by omega
        have hpos := List.length_pos_iff.mpr c3
        have key : ∀ n k h1 l1, k + n = (nm (32 * d + q)).length → Fz (SJ m) h h1 → Mp h1 m l1 → l1.length + n ≤ 400 → Wp 185 40 [.ref m, .int (Int32.ofNat d), .int (Int32.ofNat q), .int (Int32.ofNat (nm (32 * d + q)).length), .int (Int32.ofNat k)] [] h1 (fun w h' => w = .inl .null ∧ Mp h' m (l1 ++ (nm (32 * d + q)).drop k) ∧ Fz (SJ m) h h') := by
          intro n
          induction n with
          | zero =>
            intro k h1 l1 hk f1 K1 hl1
            rw [U185_40]
            simp (disch := omega) only [U185_42, U185_43, U185_46, U185_47, U185_48, U185_51, U185_53, U185_55, U185_56, U185_57, U185_58, U185_59, U185_60, U185_62, U185_63, U185_64, U185_67, U185_70, U185_73, show ¬ k < (nm (32 * d + q)).length by omega, i_add, i_mul, i_sub, i_addn, i_lt, i_eq, i_idx, i_vp, true_and, and_true, false_and, and_false, if_true, if_false, Nat.reduceAdd, Nat.reduceMul, Nat.reduceSub, Nat.reduceEqDiff, Option.some.injEq, exists_eq_left', true_or, or_true, false_or, or_false, not_true_eq_false, not_false_eq_true, eq_self, and_self, Nat.reduceLeDiff, decide_true, decide_false, ne_eq, Nat.left_eq_add, Nat.add_eq_left, Nat.add_left_cancel_iff, Nat.add_zero]
            exact ⟨by rw [List.drop_of_length_le (by omega), List.append_nil]; exact K1, f1⟩
          | succ n ih =>
            intro k h1 l1 hk f1 K1 hl1
            have Y0 := X0.fz f1
            have e5 : gI_ h1 (m + 5) (12 * (32 * d + q) + k) = Int32.ofNat ((nm (32 * d + q)).getD k 0) := by rw [f1.gI (by unfold SJ; omega)]; exact n3 k (by omega)
            rw [U185_40]
            simp (disch := omega) only [U185_42, U185_43, U185_46, U185_47, U185_48, U185_51, U185_53, U185_55, U185_56, U185_57, U185_58, U185_59, U185_60, U185_62, U185_63, U185_64, Y0.1, mp7 Y0, mk5 Y0, mn5 Y0, e5, show k < (nm (32 * d + q)).length by omega, show 12 * (32 * d + q) + k < 3072 by omega, i_add, i_mul, i_sub, i_addn, i_lt, i_eq, i_idx, i_vp, true_and, and_true, false_and, and_false, if_true, if_false, Nat.reduceAdd, Nat.reduceMul, Nat.reduceSub, Nat.reduceEqDiff, Option.some.injEq, exists_eq_left', true_or, or_true, false_or, or_false, not_true_eq_false, not_false_eq_true, eq_self, and_self, Nat.reduceLeDiff, decide_true, decide_false, ne_eq, Nat.left_eq_add, Nat.add_eq_left, Nat.add_left_cancel_iff, Nat.add_zero]
            refine Wp_use (M_print Y0 K1 (by omega)) ?_
            rintro _ h3 ⟨rfl, K3, f3⟩
            simp (disch := omega) only [V181, U185_67, U185_70, i_add, i_mul, i_sub, i_addn, i_lt, i_eq, i_idx, i_vp, true_and, and_true, false_and, and_false, if_true, if_false, Nat.reduceAdd, Nat.reduceMul, Nat.reduceSub, Nat.reduceEqDiff, Option.some.injEq, exists_eq_left', true_or, or_true, false_or, or_false, not_true_eq_false, not_false_eq_true, eq_self, and_self, Nat.reduceLeDiff, decide_true, decide_false, ne_eq, Nat.left_eq_add, Nat.add_eq_left, Nat.add_left_cancel_iff, Nat.add_zero]
            have := ih (k + 1) h3 _ (by omega) (f1.trans f3) K3 (by rw [List.length_append, List.length_singleton]; omega)
            rw [List.append_assoc, List.singleton_append, ← gD_drop (by omega)] at this
            exact this
        simp (disch := omega) only [U185_26, U185_27, U185_30, U185_31, U185_32, U185_33, U185_34, U185_37, U185_38, show ¬ (nm (32 * d + q)).length = 0 by omega, i_add, i_mul, i_sub, i_addn, i_lt, i_eq, i_idx, i_vp, true_and, and_true, false_and, and_false, if_true, if_false, Nat.reduceAdd, Nat.reduceMul, Nat.reduceSub, Nat.reduceEqDiff, Option.some.injEq, exists_eq_left', true_or, or_true, false_or, or_false, not_true_eq_false, not_false_eq_true, eq_self, and_self, Nat.reduceLeDiff, decide_true, decide_false, ne_eq, Nat.left_eq_add, Nat.add_eq_left, Nat.add_left_cancel_iff, Nat.add_zero]
        have := key (nm (32 * d + q)).length 0 h l (by omega) Fz.rfl' K (by omega)
        rw [List.drop_zero] at this
        exact this
    · rw [if_pos (Or.inr (Or.inl (by rw [i_lt (by omega) (by omega)]; exact c2)))]
      have wi : ∀ {Q : Rs_ → MH_ → Prop}, Wp 207 0 [.int (Int32.ofNat q), .int (Int32.ofNat 0), .int (Int32.ofNat 31)] [] h Q ↔ Q (.inl (.int (Int32.ofNat 0))) h := by
        intro Q
        rw [M_within]
        refine iff_of_eq (congrArg (fun z => Q (.inl (.int z)) h) (bz_f ?_).symm)
        exact fun z => z.2 (by rw [i_lt (by omega) (by omega)]; omega)
      simp (disch := omega) only [U185_0, U185_1, U185_2, U185_4, U185_7, U185_10, U185_11, U185_14, U185_16, U185_17, U185_18, U185_19, U185_20, U185_21, U185_24, U185_25, wi, V207, i_add, i_mul, i_sub, i_addn, i_lt, i_eq, i_idx, i_vp, true_and, and_true, false_and, and_false, if_true, if_false, Nat.reduceAdd, Nat.reduceMul, Nat.reduceSub, Nat.reduceEqDiff, Option.some.injEq, exists_eq_left', true_or, or_true, false_or, or_false, not_true_eq_false, not_false_eq_true, eq_self, and_self, Nat.reduceLeDiff, decide_true, decide_false, ne_eq, Nat.left_eq_add, Nat.add_eq_left, Nat.add_left_cancel_iff, Nat.add_zero]
      exact none_
theorem M_printSlot {P s k d : Nat} {a : Arg} {l : List Nat} (X0 : MS h m) (X3 : MN h m nm) (K : Mp h m l) (hP : P + 1 < 3280) (hs : s < 17400) (e1 : gI_ h (m + 3) P = Int32.ofNat k) (hk : k = 100 ∨ k = 117 ∨ k = 120 ∨ k = 102 ∨ k = 101 ∨ k = 116) (hd : d < 8) (h0 : k = 100 → d = 0) (e2 : k = 102 ∨ k = 101 → gI_ h (m + 3) (P + 1) = Int32.ofNat (48 + d)) (e3 : gI_ h (m + 23) s = nv a) (ht : k = 116 → ∃ t, a = .inr t) (e4 : ∀ t, a = .inr t → t.length ≤ 16 ∧ ∃ p, gI_ h (m + 24) s = Int32.ofNat p ∧ p + t.length ≤ 6144 ∧ ∀ j, j < t.length → gI_ h (m + 19) (p + j) = Int32.ofNat (t.getD j 0)) (hl : l.length + 21 ≤ 400) : Wp 187 0 [.ref m, .int (Int32.ofNat P), .int (Int32.ofNat s), .null, .null, .null] [] h (fun w h' => w = .inl .null ∧ Mp h' m (l ++ slT nm k d a) ∧ Fz (SJ m) h h') := by
  have hk4 : k < 200 := by omega
  have beg : ∀ Q : Rs_ → MH_ → Prop, Wp 187 15 [.ref m, .int (Int32.ofNat P), .int (Int32.ofNat s), .int (nv a), .int (Int32.ofNat k), .null] [] h Q → Wp 187 0 [.ref m, .int (Int32.ofNat P), .int (Int32.ofNat s), .null, .null, .null] [] h Q := by
    intro Q go
    simp (disch := omega) only [U187_0, U187_1, U187_4, U187_5, U187_6, U187_7, U187_8, U187_11, U187_12, U187_13, X0.1, mp31 X0, mk23 X0, mn23 X0, mp5 X0, mk3 X0, mn3 X0, e1, e3, hs, show P < 3280 by omega, i_add, i_mul, i_sub, i_addn, i_lt, i_eq, i_idx, i_vp, true_and, and_true, false_and, and_false, if_true, if_false, Nat.reduceAdd, Nat.reduceMul, Nat.reduceSub, Nat.reduceEqDiff, Option.some.injEq, exists_eq_left', true_or, or_true, false_or, or_false, not_true_eq_false, not_false_eq_true, eq_self, and_self, Nat.reduceLeDiff, decide_true, decide_false, ne_eq, Nat.left_eq_add, Nat.add_eq_left, Nat.add_left_cancel_iff, Nat.add_zero]
    exact go
  refine beg _ ?_
  unfold slT
  rcases hk with rfl | rfl | rfl | rfl | rfl | rfl
  · obtain rfl := h0 rfl
    rw [if_neg (by omega), if_neg (by omega), if_neg (by omega), if_neg (by omega)]
    simp (disch := omega) only [U187_15, U187_17, U187_19, U187_22, U187_23, U187_24, U187_25, U187_26, U187_29, U187_32, U187_34, U187_36, U187_39, U187_40, U187_41, U187_42, U187_45, U187_46, U187_47, U187_48, U187_51, U187_54, U187_56, U187_58, U187_61, U187_62, U187_63, U187_66, U187_69, U187_71, U187_73, U187_76, U187_77, U187_80, U187_81, U187_82, U187_83, U187_84, U187_86, U187_87, U187_89, U187_90, U187_91, U187_93, U187_94, U187_95, U187_97, U187_100, U187_103, U187_105, U187_107, U187_110, U187_111, U187_112, U187_115, U187_116, U187_117, U187_118, U187_119, U187_121, U187_122, U187_123, U187_126, X0.1, i_add, i_mul, i_sub, i_addn, i_lt, i_eq, i_idx, i_vp, true_and, and_true, false_and, and_false, if_true, if_false, Nat.reduceAdd, Nat.reduceMul, Nat.reduceSub, Nat.reduceEqDiff, Option.some.injEq, exists_eq_left', true_or, or_true, false_or, or_false, not_true_eq_false, not_false_eq_true, eq_self, and_self, Nat.reduceLeDiff, decide_true, decide_false, ne_eq, Nat.left_eq_add, Nat.add_eq_left, Nat.add_left_cancel_iff, Nat.add_zero]
    have ps := M_printSigned (p := 0) (x := nv a) X0 K (by omega) (by omega)
    rw [Nat.zero_add] at ps
    refine Wp_use ps ?_
    rintro _ h3 ⟨rfl, K3, f3⟩
    simp (disch := omega) only [V186, U187_29, U187_162, true_and, and_true, false_and, and_false, if_true, if_false, Nat.reduceAdd, Nat.reduceMul, Nat.reduceSub, Nat.reduceEqDiff, Option.some.injEq, exists_eq_left', true_or, or_true, false_or, or_false, not_true_eq_false, not_false_eq_true, eq_self, and_self, Nat.reduceLeDiff, decide_true, decide_false, ne_eq, Nat.left_eq_add, Nat.add_eq_left, Nat.add_left_cancel_iff, Nat.add_zero]
    exact ⟨K3, f3⟩
  · rw [if_pos rfl]
    simp (disch := omega) only [U187_15, U187_17, U187_19, U187_22, U187_23, U187_24, U187_25, U187_26, U187_29, U187_32, U187_34, U187_36, U187_39, U187_40, U187_41, U187_42, U187_45, U187_46, U187_47, U187_48, U187_51, U187_54, U187_56, U187_58, U187_61, U187_62, U187_63, U187_66, U187_69, U187_71, U187_73, U187_76, U187_77, U187_80, U187_81, U187_82, U187_83, U187_84, U187_86, U187_87, U187_89, U187_90, U187_91, U187_93, U187_94, U187_95, U187_97, U187_100, U187_103, U187_105, U187_107, U187_110, U187_111, U187_112, U187_115, U187_116, U187_117, U187_118, U187_119, U187_121, U187_122, U187_123, U187_126, X0.1, mask32, show ¬ (117 : Nat) = 100 by omega, i_add, i_mul, i_sub, i_addn, i_lt, i_eq, i_idx, i_vp, true_and, and_true, false_and, and_false, if_true, if_false, Nat.reduceAdd, Nat.reduceMul, Nat.reduceSub, Nat.reduceEqDiff, Option.some.injEq, exists_eq_left', true_or, or_true, false_or, or_false, not_true_eq_false, not_false_eq_true, eq_self, and_self, Nat.reduceLeDiff, decide_true, decide_false, ne_eq, Nat.left_eq_add, Nat.add_eq_left, Nat.add_left_cancel_iff, Nat.add_zero]
    have ps := M_printDigits (p := 0) (v := bvI (nv a)) X0 K (bvI_lt _) (by omega) (by omega)
    rw [Nat.zero_add] at ps
    refine Wp_use ps ?_
    rintro _ h3 ⟨rfl, K3, f3⟩
    simp (disch := omega) only [V182, U187_51, U187_162, true_and, and_true, false_and, and_false, if_true, if_false, Nat.reduceAdd, Nat.reduceMul, Nat.reduceSub, Nat.reduceEqDiff, Option.some.injEq, exists_eq_left', true_or, or_true, false_or, or_false, not_true_eq_false, not_false_eq_true, eq_self, and_self, Nat.reduceLeDiff, decide_true, decide_false, ne_eq, Nat.left_eq_add, Nat.add_eq_left, Nat.add_left_cancel_iff, Nat.add_zero]
    exact ⟨K3, f3⟩
  · rw [if_neg (by omega), if_pos rfl]
    simp (disch := omega) only [U187_15, U187_17, U187_19, U187_22, U187_23, U187_24, U187_25, U187_26, U187_29, U187_32, U187_34, U187_36, U187_39, U187_40, U187_41, U187_42, U187_45, U187_46, U187_47, U187_48, U187_51, U187_54, U187_56, U187_58, U187_61, U187_62, U187_63, U187_66, U187_69, U187_71, U187_73, U187_76, U187_77, U187_80, U187_81, U187_82, U187_83, U187_84, U187_86, U187_87, U187_89, U187_90, U187_91, U187_93, U187_94, U187_95, U187_97, U187_100, U187_103, U187_105, U187_107, U187_110, U187_111, U187_112, U187_115, U187_116, U187_117, U187_118, U187_119, U187_121, U187_122, U187_123, U187_126, X0.1, show ¬ (120 : Nat) = 100 by omega, show ¬ (120 : Nat) = 117 by omega, i_add, i_mul, i_sub, i_addn, i_lt, i_eq, i_idx, i_vp, true_and, and_true, false_and, and_false, if_true, if_false, Nat.reduceAdd, Nat.reduceMul, Nat.reduceSub, Nat.reduceEqDiff, Option.some.injEq, exists_eq_left', true_or, or_true, false_or, or_false, not_true_eq_false, not_false_eq_true, eq_self, and_self, Nat.reduceLeDiff, decide_true, decide_false, ne_eq, Nat.left_eq_add, Nat.add_eq_left, Nat.add_left_cancel_iff, Nat.add_zero]
    refine Wp_use (M_printHex (x := nv a) X0 K (by omega)) ?_
    rintro _ h3 ⟨rfl, K3, f3⟩
    simp (disch := omega) only [V184, U187_66, U187_162, true_and, and_true, false_and, and_false, if_true, if_false, Nat.reduceAdd, Nat.reduceMul, Nat.reduceSub, Nat.reduceEqDiff, Option.some.injEq, exists_eq_left', true_or, or_true, false_or, or_false, not_true_eq_false, not_false_eq_true, eq_self, and_self, Nat.reduceLeDiff, decide_true, decide_false, ne_eq, Nat.left_eq_add, Nat.add_eq_left, Nat.add_left_cancel_iff, Nat.add_zero]
    exact ⟨K3, f3⟩
  · rw [if_neg (by omega), if_neg (by omega), if_neg (by omega), if_neg (by omega)]
    simp (disch := omega) only [U187_15, U187_17, U187_19, U187_22, U187_23, U187_24, U187_25, U187_26, U187_29, U187_32, U187_34, U187_36, U187_39, U187_40, U187_41, U187_42, U187_45, U187_46, U187_47, U187_48, U187_51, U187_54, U187_56, U187_58, U187_61, U187_62, U187_63, U187_66, U187_69, U187_71, U187_73, U187_76, U187_77, U187_80, U187_81, U187_82, U187_83, U187_84, U187_86, U187_87, U187_89, U187_90, U187_91, U187_93, U187_94, U187_95, U187_97, U187_100, U187_103, U187_105, U187_107, U187_110, U187_111, U187_112, U187_115, U187_116, U187_117, U187_118, U187_119, U187_121, U187_122, U187_123, U187_126, X0.1, mp5 X0, mk3 X0, mn3 X0, hP, e2 (Or.inl rfl), show 48 + d - 48 = d by omega, show ¬ (102 : Nat) = 100 by omega, show ¬ (102 : Nat) = 117 by omega, show ¬ (102 : Nat) = 120 by omega, i_add, i_mul, i_sub, i_addn, i_lt, i_eq, i_idx, i_vp, true_and, and_true, false_and, and_false, if_true, if_false, Nat.reduceAdd, Nat.reduceMul, Nat.reduceSub, Nat.reduceEqDiff, Option.some.injEq, exists_eq_left', true_or, or_true, false_or, or_false, not_true_eq_false, not_false_eq_true, eq_self, and_self, Nat.reduceLeDiff, decide_true, decide_false, ne_eq, Nat.left_eq_add, Nat.add_eq_left, Nat.add_left_cancel_iff, Nat.add_zero]
    refine Wp_use (M_printSigned (p := d) (x := nv a) X0 K (by omega) (by omega)) ?_
    rintro _ h3 ⟨rfl, K3, f3⟩
    simp (disch := omega) only [V186, U187_100, U187_162, true_and, and_true, false_and, and_false, if_true, if_false, Nat.reduceAdd, Nat.reduceMul, Nat.reduceSub, Nat.reduceEqDiff, Option.some.injEq, exists_eq_left', true_or, or_true, false_or, or_false, not_true_eq_false, not_false_eq_true, eq_self, and_self, Nat.reduceLeDiff, decide_true, decide_false, ne_eq, Nat.left_eq_add, Nat.add_eq_left, Nat.add_left_cancel_iff, Nat.add_zero]
    exact ⟨K3, f3⟩
  · rw [if_neg (by omega), if_neg (by omega), if_pos rfl]
    simp (disch := omega) only [U187_15, U187_17, U187_19, U187_22, U187_23, U187_24, U187_25, U187_26, U187_29, U187_32, U187_34, U187_36, U187_39, U187_40, U187_41, U187_42, U187_45, U187_46, U187_47, U187_48, U187_51, U187_54, U187_56, U187_58, U187_61, U187_62, U187_63, U187_66, U187_69, U187_71, U187_73, U187_76, U187_77, U187_80, U187_81, U187_82, U187_83, U187_84, U187_86, U187_87, U187_89, U187_90, U187_91, U187_93, U187_94, U187_95, U187_97, U187_100, U187_103, U187_105, U187_107, U187_110, U187_111, U187_112, U187_115, U187_116, U187_117, U187_118, U187_119, U187_121, U187_122, U187_123, U187_126, X0.1, mp5 X0, mk3 X0, mn3 X0, hP, e2 (Or.inr rfl), show 48 + d - 48 = d by omega, show ¬ (101 : Nat) = 100 by omega, show ¬ (101 : Nat) = 117 by omega, show ¬ (101 : Nat) = 120 by omega, show ¬ (101 : Nat) = 102 by omega, i_add, i_mul, i_sub, i_addn, i_lt, i_eq, i_idx, i_vp, true_and, and_true, false_and, and_false, if_true, if_false, Nat.reduceAdd, Nat.reduceMul, Nat.reduceSub, Nat.reduceEqDiff, Option.some.injEq, exists_eq_left', true_or, or_true, false_or, or_false, not_true_eq_false, not_false_eq_true, eq_self, and_self, Nat.reduceLeDiff, decide_true, decide_false, ne_eq, Nat.left_eq_add, Nat.add_eq_left, Nat.add_left_cancel_iff, Nat.add_zero]
    refine Wp_use (M_printNamed (x := nv a) X0 X3 K hd (by omega)) ?_
    rintro _ h3 ⟨rfl, K3, f3⟩
    simp (disch := omega) only [V185, U187_126, U187_162, true_and, and_true, false_and, and_false, if_true, if_false, Nat.reduceAdd, Nat.reduceMul, Nat.reduceSub, Nat.reduceEqDiff, Option.some.injEq, exists_eq_left', true_or, or_true, false_or, or_false, not_true_eq_false, not_false_eq_true, eq_self, and_self, Nat.reduceLeDiff, decide_true, decide_false, ne_eq, Nat.left_eq_add, Nat.add_eq_left, Nat.add_left_cancel_iff, Nat.add_zero]
    exact ⟨K3, f3⟩
  · rw [if_neg (by omega), if_neg (by omega), if_neg (by omega), if_pos rfl]
    obtain ⟨t, rfl⟩ := ht rfl
    obtain ⟨t1, p, p1, p2, p3⟩ := e4 t rfl
    simp (disch := omega) only [U187_15, U187_17, U187_19, U187_22, U187_23, U187_24, U187_25, U187_26, U187_29, U187_32, U187_34, U187_36, U187_39, U187_40, U187_41, U187_42, U187_45, U187_46, U187_47, U187_48, U187_51, U187_54, U187_56, U187_58, U187_61, U187_62, U187_63, U187_66, U187_69, U187_71, U187_73, U187_76, U187_77, U187_80, U187_81, U187_82, U187_83, U187_84, U187_86, U187_87, U187_89, U187_90, U187_91, U187_93, U187_94, U187_95, U187_97, U187_100, U187_103, U187_105, U187_107, U187_110, U187_111, U187_112, U187_115, U187_116, U187_117, U187_118, U187_119, U187_121, U187_122, U187_123, U187_126, U187_129, U187_130, show ¬ (116 : Nat) = 100 by omega, show ¬ (116 : Nat) = 117 by omega, show ¬ (116 : Nat) = 120 by omega, show ¬ (116 : Nat) = 102 by omega, show ¬ (116 : Nat) = 101 by omega, i_add, i_mul, i_sub, i_addn, i_lt, i_eq, i_idx, i_vp, true_and, and_true, false_and, and_false, if_true, if_false, Nat.reduceAdd, Nat.reduceMul, Nat.reduceSub, Nat.reduceEqDiff, Option.some.injEq, exists_eq_left', true_or, or_true, false_or, or_false, not_true_eq_false, not_false_eq_true, eq_self, and_self, Nat.reduceLeDiff, decide_true, decide_false, ne_eq, Nat.left_eq_add, Nat.add_eq_left, Nat.add_left_cancel_iff, Nat.add_zero]
    have key : ∀ n i h1 l1, i + n = t.length → Fz (SJ m) h h1 → Mp h1 m l1 → l1.length + n ≤ 400 → Wp 187 132 [.ref m, .int (Int32.ofNat P), .int (Int32.ofNat s), .int (Int32.ofNat t.length), .int (Int32.ofNat 116), .int (Int32.ofNat i)] [] h1 (fun w h' => w = .inl .null ∧ Mp h' m (l1 ++ t.drop i) ∧ Fz (SJ m) h h') := by
      intro n
      induction n with
      | zero =>
        intro i h1 l1 hi f1 K1 hl1
        rw [U187_132]
        simp (disch := omega) only [U187_134, U187_135, U187_162, show ¬ i < t.length by omega, i_add, i_mul, i_sub, i_addn, i_lt, i_eq, i_idx, i_vp, true_and, and_true, false_and, and_false, if_true, if_false, Nat.reduceAdd, Nat.reduceMul, Nat.reduceSub, Nat.reduceEqDiff, Option.some.injEq, exists_eq_left', true_or, or_true, false_or, or_false, not_true_eq_false, not_false_eq_true, eq_self, and_self, Nat.reduceLeDiff, decide_true, decide_false, ne_eq, Nat.left_eq_add, Nat.add_eq_left, Nat.add_left_cancel_iff, Nat.add_zero]
        exact ⟨by rw [List.drop_of_length_le (by omega), List.append_nil]; exact K1, f1⟩
      | succ n ih =>
        intro i h1 l1 hi f1 K1 hl1
        have Y0 := X0.fz f1
        have e5 : gI_ h1 (m + 19) (p + i) = Int32.ofNat (t.getD i 0) := by rw [f1.gI (by unfold SJ; omega)]; exact p3 i (by omega)
        have e6 : gI_ h1 (m + 24) s = Int32.ofNat p := by rw [f1.gI (by unfold SJ; omega)]; exact p1
        rw [U187_132]
        simp (disch := omega) only [U187_134, U187_135, U187_138, U187_139, U187_140, U187_143, U187_144, U187_147, U187_148, U187_149, U187_151, U187_152, U187_153, Y0.1, mp26 Y0, mk19 Y0, mn19 Y0, mp32 Y0, mk24 Y0, mn24 Y0, e5, e6, hs, show i < t.length by omega, show p + i < 6144 by omega, i_add, i_mul, i_sub, i_addn, i_lt, i_eq, i_idx, i_vp, true_and, and_true, false_and, and_false, if_true, if_false, Nat.reduceAdd, Nat.reduceMul, Nat.reduceSub, Nat.reduceEqDiff, Option.some.injEq, exists_eq_left', true_or, or_true, false_or, or_false, not_true_eq_false, not_false_eq_true, eq_self, and_self, Nat.reduceLeDiff, decide_true, decide_false, ne_eq, Nat.left_eq_add, Nat.add_eq_left, Nat.add_left_cancel_iff, Nat.add_zero]
        refine Wp_use (M_print Y0 K1 (by omega)) ?_
        rintro _ h3 ⟨rfl, K3, f3⟩
        simp (disch := omega) only [V181, U187_156, U187_159, i_add, i_mul, i_sub, i_addn, i_lt, i_eq, i_idx, i_vp, true_and, and_true, false_and, and_false, if_true, if_false, Nat.reduceAdd, Nat.reduceMul, Nat.reduceSub, Nat.reduceEqDiff, Option.some.injEq, exists_eq_left', true_or, or_true, false_or, or_false, not_true_eq_false, not_false_eq_true, eq_self, and_self, Nat.reduceLeDiff, decide_true, decide_false, ne_eq, Nat.left_eq_add, Nat.add_eq_left, Nat.add_left_cancel_iff, Nat.add_zero]
        have := ih (i + 1) h3 _ (by omega) (f1.trans f3) K3 (by rw [List.length_append, List.length_singleton]; omega)
        rw [List.append_assoc, List.singleton_append, ← gD_drop (by omega)] at this
        exact this
    have := key t.length 0 h l (by omega) Fz.rfl' K (by omega)
    rw [List.drop_zero] at this
    exact this
end
