/-! ===== the model: packSlot, packAll ===== -/
section
variable {h h' : MH_} {m s : Nat} {si : List (List Tok)} {Q : Rs_ → MH_ → Prop} {wr : Nat → Wr}
theorem SK_W {m : Nat} : ∀ a i, (m + 9 ≤ a ∧ a ≤ m + 16) → ¬ SK m a i := by unfold SK; intro a i z w; omega
/-- what the events of a writer are -/
def WkOk (si : List (List Tok)) (l : List Pd) : Prop := ∀ p ∈ l, p.2.1 < 9223372036854775808 ∧ ∃ ts, si[p.1]? = some ts ∧ fit ts p.2.2 = true
theorem lo8_shr (x : Int32) {k : Nat} (hk : k < 4) : lo8 (x >>> (Int32.ofNat (8 * k) &&& 31)) = by64 x.toInt64 k := by
  have e := ishr_and x hk
  have e2 := (lo8_b8 (x >>> (Int32.ofNat (8 * k) &&& 31))).2.2
  rw [e] at e2
  have := by64_lt x.toInt64 k
  rw [by64_int x hk] at this ⊢
  have l := (lo8_b8 (x >>> (Int32.ofNat (8 * k) &&& 31))).2.1
  exact ((i_eq (by omega) (by omega)).mp e2).symm
theorem M_packSlot {w e k : Nat} {p : Pd} {g : Arg} {l : List Nat} (X0 : MS h m) (X5 : MW h m wr) (K : Mk h m l) (hw : w < 4) (he : (wr w).1[e]? = some p) (hk : p.2.2[k]? = some g) (h40 : ∀ q ∈ (wr w).1, q.1 < 40) (hn : (∃ y, g = .inl y) → ∀ q ∈ (wr w).1, q.1 = p.1 → ∃ y, q.2.2[k]? = some (.inl y)) (hl : l.length + 17 ≤ 400) : Wp 179 0 [.ref m, .int (Int32.ofNat w), .int (Int32.ofNat e), .int (Int32.ofNat k), .null, .null, .null, .null] [] h (fun v h' => v = .inl .null ∧ Mk h' m (l ++ pkA (fun j => (pkP ((wr w).1.take e)).2.1 (p.1 * 6 + j)) k g) ∧ Fz (SK m) h h') := by
  obtain ⟨w1, w2, w3, w4, w5⟩ := X5 w hw
  have hel : e < (wr w).1.length := by
    rcases Nat.lt_or_ge e (wr w).1.length with z | z
    · exact z
    · rw [List.getElem?_eq_none z] at he; cases he
  obtain ⟨y1, y2, y3, y4⟩ := w5 e p he
  have hk6 : k < p.2.2.length := by
    rcases Nat.lt_or_ge k p.2.2.length with z | z
    · exact z
    · rw [List.getElem?_eq_none z] at hk; cases hk
  have mc := y4 k g hk
  have hat : 6 * (120 * w + e) + k < 2880 := by omega
  generalize hA : 6 * (120 * w + e) + k = A at *
  cases g with
  | inr t =>
    obtain ⟨c1, c2, c3, c4⟩ := mc
    have key : ∀ n j h1 l1, j + n = t.length → Fz (SK m) h h1 → Mk h1 m l1 → l1.length + n ≤ 400 → Wp 179 37 [.ref m, .int (Int32.ofNat w), .int (Int32.ofNat e), .int (Int32.ofNat k), .int (Int32.ofNat A), .int (Int32.ofNat j), .null, .null] [] h1 (fun v h' => v = .inl .null ∧ Mk h' m (l1 ++ t.drop j) ∧ Fz (SK m) h h') := by
      intro n
      induction n with
      | zero =>
        intro j h1 l1 hj f1 K1 hl1
        have Y0 := X0.fz f1
        have z1 : gI_ h1 (m + 12) A = Int32.ofNat t.length := by rw [f1.gI (by unfold SK; omega), c1]
        rw [U179_37]
        simp (disch := omega) only [U179_0, U179_2, U179_4, U179_5, U179_6, U179_7, U179_8, U179_9, U179_10, U179_11, U179_13, U179_14, U179_17, U179_19, U179_20, U179_23, U179_24, U179_25, U179_28, U179_30, U179_31, U179_34, U179_35, U179_39, U179_40, U179_43, U179_45, U179_46, U179_49, U179_50, U179_51, U179_54, U179_56, U179_58, U179_59, U179_61, U179_62, U179_63, U179_66, U179_69, U179_72, U179_73, U179_74, U179_77, U179_79, U179_80, U179_82, U179_84, U179_85, U179_86, U179_87, U179_88, U179_91, U179_92, U179_94, U179_96, U179_99, U179_100, U179_101, U179_104, U179_107, U179_109, U179_111, U179_113, U179_116, U179_119, U179_120, U179_122, U179_124, U179_125, U179_128, U179_131, U179_132, U179_135, U179_138, U179_140, U179_144, U179_147, U179_148, U179_150, U179_152, U179_153, U179_156, U179_158, U179_160, U179_161, U179_163, U179_166, Y0.1, mp15 Y0, mk12 Y0, mn12 Y0, z1, hat, show ¬ j < t.length by omega, i_add, i_mul, i_sub, i_addn, i_lt, i_eq, i_idx, i_vp, true_and, and_true, false_and, and_false, if_true, if_false, Nat.reduceAdd, Nat.reduceMul, Nat.reduceSub, Nat.reduceEqDiff, Option.some.injEq, exists_eq_left', true_or, or_true, false_or, or_false, not_true_eq_false, not_false_eq_true, eq_self, and_self, Nat.reduceLeDiff, decide_true, decide_false, ne_eq, Nat.left_eq_add, Nat.add_eq_left, Nat.add_left_cancel_iff, Nat.add_zero]
        rw [List.drop_of_length_le (by omega), List.append_nil]
        exact ⟨K1, f1⟩
      | succ n ih =>
        intro j h1 l1 hj f1 K1 hl1
        have Y0 := X0.fz f1
        have z1 : gI_ h1 (m + 12) A = Int32.ofNat t.length := by rw [f1.gI (by unfold SK; omega), c1]
        have z2 : gI_ h1 (m + 14) (16 * A + j) = Int32.ofNat (t.getD j 0) := by rw [f1.gI (by unfold SK; omega), c3 j (by omega)]
        rw [U179_37]
        simp (disch := omega) only [U179_0, U179_2, U179_4, U179_5, U179_6, U179_7, U179_8, U179_9, U179_10, U179_11, U179_13, U179_14, U179_17, U179_19, U179_20, U179_23, U179_24, U179_25, U179_28, U179_30, U179_31, U179_34, U179_35, U179_39, U179_40, U179_43, U179_45, U179_46, U179_49, U179_50, U179_51, U179_54, U179_56, U179_58, U179_59, U179_61, U179_62, U179_63, U179_66, U179_69, U179_72, U179_73, U179_74, U179_77, U179_79, U179_80, U179_82, U179_84, U179_85, U179_86, U179_87, U179_88, U179_91, U179_92, U179_94, U179_96, U179_99, U179_100, U179_101, U179_104, U179_107, U179_109, U179_111, U179_113, U179_116, U179_119, U179_120, U179_122, U179_124, U179_125, U179_128, U179_131, U179_132, U179_135, U179_138, U179_140, U179_144, U179_147, U179_148, U179_150, U179_152, U179_153, U179_156, U179_158, U179_160, U179_161, U179_163, U179_166, Y0.1, mp15 Y0, mk12 Y0, mn12 Y0, mp17 Y0, mk14 Y0, mn14 Y0, z1, z2, hat, show j < t.length by omega, show 16 * A + j < 46080 by omega, i_add, i_mul, i_sub, i_addn, i_lt, i_eq, i_idx, i_vp, true_and, and_true, false_and, and_false, if_true, if_false, Nat.reduceAdd, Nat.reduceMul, Nat.reduceSub, Nat.reduceEqDiff, Option.some.injEq, exists_eq_left', true_or, or_true, false_or, or_false, not_true_eq_false, not_false_eq_true, eq_self, and_self, Nat.reduceLeDiff, decide_true, decide_false, ne_eq, Nat.left_eq_add, Nat.add_eq_left, Nat.add_left_cancel_iff, Nat.add_zero]
        refine Wp_use (M_pack Y0 K1 (by omega)) ?_
        rintro _ h2 ⟨rfl, K2, f2⟩
        rw [lo8_of, Nat.mod_eq_of_lt (gD_lt c4 j)] at K2
        simp (disch := omega) only [V177, U179_0, U179_2, U179_4, U179_5, U179_6, U179_7, U179_8, U179_9, U179_10, U179_11, U179_13, U179_14, U179_17, U179_19, U179_20, U179_23, U179_24, U179_25, U179_28, U179_30, U179_31, U179_34, U179_35, U179_39, U179_40, U179_43, U179_45, U179_46, U179_49, U179_50, U179_51, U179_54, U179_56, U179_58, U179_59, U179_61, U179_62, U179_63, U179_66, U179_69, U179_72, U179_73, U179_74, U179_77, U179_79, U179_80, U179_82, U179_84, U179_85, U179_86, U179_87, U179_88, U179_91, U179_92, U179_94, U179_96, U179_99, U179_100, U179_101, U179_104, U179_107, U179_109, U179_111, U179_113, U179_116, U179_119, U179_120, U179_122, U179_124, U179_125, U179_128, U179_131, U179_132, U179_135, U179_138, U179_140, U179_144, U179_147, U179_148, U179_150, U179_152, U179_153, U179_156, U179_158, U179_160, U179_161, U179_163, U179_166, i_add, i_mul, i_sub, i_addn, i_lt, i_eq, i_idx, i_vp, true_and, and_true, false_and, and_false, if_true, if_false, Nat.reduceAdd, Nat.reduceMul, Nat.reduceSub, Nat.reduceEqDiff, Option.some.injEq, exists_eq_left', true_or, or_true, false_or, or_false, not_true_eq_false, not_false_eq_true, eq_self, and_self, Nat.reduceLeDiff, decide_true, decide_false, ne_eq, Nat.left_eq_add, Nat.add_eq_left, Nat.add_left_cancel_iff, Nat.add_zero]
        refine Wp_use (ih (j + 1) h2 _ (by omega) (f1.trans f2) K2 (by rw [List.length_append, List.length_singleton]; omega)) ?_
        rintro _ h3 ⟨rfl, K3, f3⟩
        rw [List.append_assoc, List.singleton_append, ← gD_drop (by omega)] at K3
        exact ⟨rfl, K3, f3⟩
    simp (disch := omega) only [U179_0, U179_2, U179_4, U179_5, U179_6, U179_7, U179_8, U179_9, U179_10, U179_11, U179_13, U179_14, U179_17, U179_19, U179_20, U179_23, U179_24, U179_25, U179_28, U179_30, U179_31, U179_34, U179_35, U179_39, U179_40, U179_43, U179_45, U179_46, U179_49, U179_50, U179_51, U179_54, U179_56, U179_58, U179_59, U179_61, U179_62, U179_63, U179_66, U179_69, U179_72, U179_73, U179_74, U179_77, U179_79, U179_80, U179_82, U179_84, U179_85, U179_86, U179_87, U179_88, U179_91, U179_92, U179_94, U179_96, U179_99, U179_100, U179_101, U179_104, U179_107, U179_109, U179_111, U179_113, U179_116, U179_119, U179_120, U179_122, U179_124, U179_125, U179_128, U179_131, U179_132, U179_135, U179_138, U179_140, U179_144, U179_147, U179_148, U179_150, U179_152, U179_153, U179_156, U179_158, U179_160, U179_161, U179_163, U179_166, X0.1, mp15 X0, mk12 X0, mn12 X0, hA, hat, c1, show ¬ t.length < 0 by omega, i_add, i_mul, i_sub, i_addn, i_lt, i_eq, i_idx, i_vp, true_and, and_true, false_and, and_false, if_true, if_false, Nat.reduceAdd, Nat.reduceMul, Nat.reduceSub, Nat.reduceEqDiff, Option.some.injEq, exists_eq_left', true_or, or_true, false_or, or_false, not_true_eq_false, not_false_eq_true, eq_self, and_self, Nat.reduceLeDiff, decide_true, decide_false, ne_eq, Nat.left_eq_add, Nat.add_eq_left, Nat.add_left_cancel_iff, Nat.add_zero]
    refine Wp_use (M_pack X0 K (by omega)) ?_
    rintro _ h2 ⟨rfl, K2, f2⟩
    rw [lo8_of, Nat.mod_eq_of_lt (by omega)] at K2
    simp (disch := omega) only [V177, U179_0, U179_2, U179_4, U179_5, U179_6, U179_7, U179_8, U179_9, U179_10, U179_11, U179_13, U179_14, U179_17, U179_19, U179_20, U179_23, U179_24, U179_25, U179_28, U179_30, U179_31, U179_34, U179_35, U179_39, U179_40, U179_43, U179_45, U179_46, U179_49, U179_50, U179_51, U179_54, U179_56, U179_58, U179_59, U179_61, U179_62, U179_63, U179_66, U179_69, U179_72, U179_73, U179_74, U179_77, U179_79, U179_80, U179_82, U179_84, U179_85, U179_86, U179_87, U179_88, U179_91, U179_92, U179_94, U179_96, U179_99, U179_100, U179_101, U179_104, U179_107, U179_109, U179_111, U179_113, U179_116, U179_119, U179_120, U179_122, U179_124, U179_125, U179_128, U179_131, U179_132, U179_135, U179_138, U179_140, U179_144, U179_147, U179_148, U179_150, U179_152, U179_153, U179_156, U179_158, U179_160, U179_161, U179_163, U179_166, i_add, i_mul, i_sub, i_addn, i_lt, i_eq, i_idx, i_vp, true_and, and_true, false_and, and_false, if_true, if_false, Nat.reduceAdd, Nat.reduceMul, Nat.reduceSub, Nat.reduceEqDiff, Option.some.injEq, exists_eq_left', true_or, or_true, false_or, or_false, not_true_eq_false, not_false_eq_true, eq_self, and_self, Nat.reduceLeDiff, decide_true, decide_false, ne_eq, Nat.left_eq_add, Nat.add_eq_left, Nat.add_left_cancel_iff, Nat.add_zero]
    refine Wp_use (key t.length 0 h2 _ (by omega) f2 K2 (by rw [List.length_append, List.length_singleton]; omega)) ?_
    rintro _ h3 ⟨rfl, K3, f3⟩
    rw [List.drop_zero, List.append_assoc] at K3
    exact ⟨rfl, K3, f3⟩
  | inl y =>
    obtain ⟨c1, c2⟩ := mc
    have nb : ∀ Q : Rs_ → MH_ → Prop, _ := fun Q => M_numberBefore (Q := Q) X0 X5 hw he (show k < 6 by omega) h40 (hn ⟨y, rfl⟩)
    generalize hla : (pkP ((wr w).1.take e)).2.1 (p.1 * 6 + k) = la at nb
    show Wp _ _ _ _ _ (fun v h' => v = .inl .null ∧ Mk h' m (l ++ pkN y ((pkP ((wr w).1.take e)).2.1 (p.1 * 6 + k))) ∧ Fz (SK m) h h')
    rw [hla]
    have hneg : -(Int32.ofNat 1) < Int32.ofNat 0 := by decide
    unfold pkN
    by_cases d0 : y - la = Int32.ofNat 0
    · rw [if_pos d0]
      simp (disch := omega) only [U179_0, U179_2, U179_4, U179_5, U179_6, U179_7, U179_8, U179_9, U179_10, U179_11, U179_13, U179_14, U179_17, U179_19, U179_20, U179_23, U179_24, U179_25, U179_28, U179_30, U179_31, U179_34, U179_35, U179_39, U179_40, U179_43, U179_45, U179_46, U179_49, U179_50, U179_51, U179_54, U179_56, U179_58, U179_59, U179_61, U179_62, U179_63, U179_66, U179_69, U179_72, U179_73, U179_74, U179_77, U179_79, U179_80, U179_82, U179_84, U179_85, U179_86, U179_87, U179_88, U179_91, U179_92, U179_94, U179_96, U179_99, U179_100, U179_101, U179_104, U179_107, U179_109, U179_111, U179_113, U179_116, U179_119, U179_120, U179_122, U179_124, U179_125, U179_128, U179_131, U179_132, U179_135, U179_138, U179_140, U179_144, U179_147, U179_148, U179_150, U179_152, U179_153, U179_156, U179_158, U179_160, U179_161, U179_163, U179_166, X0.1, mp15 X0, mk12 X0, mn12 X0, mp16 X0, mk13 X0, mn13 X0, hA, hat, c1, c2, hneg, nb, V175, d0, i_add, i_mul, i_idx, i_vp, true_and, and_true, false_and, and_false, if_true, if_false, Nat.reduceAdd, Nat.reduceMul, Nat.reduceSub, Nat.reduceEqDiff, Option.some.injEq, exists_eq_left', true_or, or_true, false_or, or_false, not_true_eq_false, not_false_eq_true, eq_self, and_self, Nat.reduceLeDiff, decide_true, decide_false, ne_eq, Nat.left_eq_add, Nat.add_eq_left, Nat.add_left_cancel_iff, Nat.add_zero]
      refine Wp_use (M_pack X0 K (by omega)) ?_
      rintro _ h2 ⟨rfl, K2, f2⟩
      simp (disch := omega) only [V177, U179_0, U179_2, U179_4, U179_5, U179_6, U179_7, U179_8, U179_9, U179_10, U179_11, U179_13, U179_14, U179_17, U179_19, U179_20, U179_23, U179_24, U179_25, U179_28, U179_30, U179_31, U179_34, U179_35, U179_39, U179_40, U179_43, U179_45, U179_46, U179_49, U179_50, U179_51, U179_54, U179_56, U179_58, U179_59, U179_61, U179_62, U179_63, U179_66, U179_69, U179_72, U179_73, U179_74, U179_77, U179_79, U179_80, U179_82, U179_84, U179_85, U179_86, U179_87, U179_88, U179_91, U179_92, U179_94, U179_96, U179_99, U179_100, U179_101, U179_104, U179_107, U179_109, U179_111, U179_113, U179_116, U179_119, U179_120, U179_122, U179_124, U179_125, U179_128, U179_131, U179_132, U179_135, U179_138, U179_140, U179_144, U179_147, U179_148, U179_150, U179_152, U179_153, U179_156, U179_158, U179_160, U179_161, U179_163, U179_166, true_and, and_true, false_and, and_false, if_true, if_false, Nat.reduceAdd, Nat.reduceMul, Nat.reduceSub, Nat.reduceEqDiff, Option.some.injEq, exists_eq_left', true_or, or_true, false_or, or_false, not_true_eq_false, not_false_eq_true, eq_self, and_self, Nat.reduceLeDiff, decide_true, decide_false, ne_eq, Nat.left_eq_add, Nat.add_eq_left, Nat.add_left_cancel_iff, Nat.add_zero]
      rw [lo8_of] at K2
      exact ⟨K2, f2⟩
    · rw [if_neg d0]
      by_cases d1 : y - la < -(Int32.ofNat 60) ∨ Int32.ofNat 60 < y - la
      · rw [if_pos d1]
        have hb : bz (¬ y - la < -(Int32.ofNat 60) ∧ ¬ Int32.ofNat 60 < y - la) = Int32.ofNat 0 := by rw [bz_0]; exact fun z => d1.elim z.1 z.2
        have key : ∀ n h1 l1, n ≤ 4 → Fz (SK m) h h1 → Mk h1 m l1 → l1.length + n ≤ 400 → Wp 179 142 [.ref m, .int (Int32.ofNat w), .int (Int32.ofNat e), .int (Int32.ofNat k), .int (Int32.ofNat A), .int y, .int (y - la), .int (Int32.ofNat (8 * n) - Int32.ofNat 8)] [] h1 (fun v h' => v = .inl .null ∧ Mk h' m (l1 ++ bigB y.toInt64 n) ∧ Fz (SK m) h h') := by
          intro n
          induction n with
          | zero =>
            intro h1 l1 hn4 f1 K1 hl1
            rw [U179_142]
            simp (disch := omega) only [U179_0, U179_2, U179_4, U179_5, U179_6, U179_7, U179_8, U179_9, U179_10, U179_11, U179_13, U179_14, U179_17, U179_19, U179_20, U179_23, U179_24, U179_25, U179_28, U179_30, U179_31, U179_34, U179_35, U179_39, U179_40, U179_43, U179_45, U179_46, U179_49, U179_50, U179_51, U179_54, U179_56, U179_58, U179_59, U179_61, U179_62, U179_63, U179_66, U179_69, U179_72, U179_73, U179_74, U179_77, U179_79, U179_80, U179_82, U179_84, U179_85, U179_86, U179_87, U179_88, U179_91, U179_92, U179_94, U179_96, U179_99, U179_100, U179_101, U179_104, U179_107, U179_109, U179_111, U179_113, U179_116, U179_119, U179_120, U179_122, U179_124, U179_125, U179_128, U179_131, U179_132, U179_135, U179_138, U179_140, U179_144, U179_147, U179_148, U179_150, U179_152, U179_153, U179_156, U179_158, U179_160, U179_161, U179_163, U179_166, show Int32.ofNat (8 * 0) - Int32.ofNat 8 < Int32.ofNat 0 by decide, true_and, and_true, false_and, and_false, if_true, if_false, Nat.reduceAdd, Nat.reduceMul, Nat.reduceSub, Nat.reduceEqDiff, Option.some.injEq, exists_eq_left', true_or, or_true, false_or, or_false, not_true_eq_false, not_false_eq_true, eq_self, and_self, Nat.reduceLeDiff, decide_true, decide_false, ne_eq, Nat.left_eq_add, Nat.add_eq_left, Nat.add_left_cancel_iff, Nat.add_zero]
            rw [show bigB y.toInt64 0 = [] from rfl, List.append_nil]
            exact ⟨K1, f1⟩
          | succ n ih =>
            intro h1 l1 hn4 f1 K1 hl1
            have Y0 := X0.fz f1
            have e8 : Int32.ofNat (8 * (n + 1)) - Int32.ofNat 8 = Int32.ofNat (8 * n) := by rw [i_sub (by omega)]; congr 1
            rw [e8, U179_142]
            simp (disch := omega) only [U179_0, U179_2, U179_4, U179_5, U179_6, U179_7, U179_8, U179_9, U179_10, U179_11, U179_13, U179_14, U179_17, U179_19, U179_20, U179_23, U179_24, U179_25, U179_28, U179_30, U179_31, U179_34, U179_35, U179_39, U179_40, U179_43, U179_45, U179_46, U179_49, U179_50, U179_51, U179_54, U179_56, U179_58, U179_59, U179_61, U179_62, U179_63, U179_66, U179_69, U179_72, U179_73, U179_74, U179_77, U179_79, U179_80, U179_82, U179_84, U179_85, U179_86, U179_87, U179_88, U179_91, U179_92, U179_94, U179_96, U179_99, U179_100, U179_101, U179_104, U179_107, U179_109, U179_111, U179_113, U179_116, U179_119, U179_120, U179_122, U179_124, U179_125, U179_128, U179_131, U179_132, U179_135, U179_138, U179_140, U179_144, U179_147, U179_148, U179_150, U179_152, U179_153, U179_156, U179_158, U179_160, U179_161, U179_163, U179_166, Y0.1, i_lt, show ¬ 8 * n < 0 by omega, true_and, and_true, false_and, and_false, if_true, if_false, Nat.reduceAdd, Nat.reduceMul, Nat.reduceSub, Nat.reduceEqDiff, Option.some.injEq, exists_eq_left', true_or, or_true, false_or, or_false, not_true_eq_false, not_false_eq_true, eq_self, and_self, Nat.reduceLeDiff, decide_true, decide_false, ne_eq, Nat.left_eq_add, Nat.add_eq_left, Nat.add_left_cancel_iff, Nat.add_zero]
            refine Wp_use (M_pack Y0 K1 (by omega)) ?_
            rintro _ h2 ⟨rfl, K2, f2⟩
            rw [lo8_shr y (by omega)] at K2
            simp (disch := omega) only [V177, U179_0, U179_2, U179_4, U179_5, U179_6, U179_7, U179_8, U179_9, U179_10, U179_11, U179_13, U179_14, U179_17, U179_19, U179_20, U179_23, U179_24, U179_25, U179_28, U179_30, U179_31, U179_34, U179_35, U179_39, U179_40, U179_43, U179_45, U179_46, U179_49, U179_50, U179_51, U179_54, U179_56, U179_58, U179_59, U179_61, U179_62, U179_63, U179_66, U179_69, U179_72, U179_73, U179_74, U179_77, U179_79, U179_80, U179_82, U179_84, U179_85, U179_86, U179_87, U179_88, U179_91, U179_92, U179_94, U179_96, U179_99, U179_100, U179_101, U179_104, U179_107, U179_109, U179_111, U179_113, U179_116, U179_119, U179_120, U179_122, U179_124, U179_125, U179_128, U179_131, U179_132, U179_135, U179_138, U179_140, U179_144, U179_147, U179_148, U179_150, U179_152, U179_153, U179_156, U179_158, U179_160, U179_161, U179_163, U179_166, true_and, and_true, false_and, and_false, if_true, if_false, Nat.reduceAdd, Nat.reduceMul, Nat.reduceSub, Nat.reduceEqDiff, Option.some.injEq, exists_eq_left', true_or, or_true, false_or, or_false, not_true_eq_false, not_false_eq_true, eq_self, and_self, Nat.reduceLeDiff, decide_true, decide_false, ne_eq, Nat.left_eq_add, Nat.add_eq_left, Nat.add_left_cancel_iff, Nat.add_zero]
            refine Wp_use (ih h2 _ (by omega) (f1.trans f2) K2 (by rw [List.length_append, List.length_singleton]; omega)) ?_
            rintro _ h3 ⟨rfl, K3, f3⟩
            rw [List.append_assoc] at K3
            exact ⟨rfl, K3, f3⟩
        simp (disch := omega) only [U179_0, U179_2, U179_4, U179_5, U179_6, U179_7, U179_8, U179_9, U179_10, U179_11, U179_13, U179_14, U179_17, U179_19, U179_20, U179_23, U179_24, U179_25, U179_28, U179_30, U179_31, U179_34, U179_35, U179_39, U179_40, U179_43, U179_45, U179_46, U179_49, U179_50, U179_51, U179_54, U179_56, U179_58, U179_59, U179_61, U179_62, U179_63, U179_66, U179_69, U179_72, U179_73, U179_74, U179_77, U179_79, U179_80, U179_82, U179_84, U179_85, U179_86, U179_87, U179_88, U179_91, U179_92, U179_94, U179_96, U179_99, U179_100, U179_101, U179_104, U179_107, U179_109, U179_111, U179_113, U179_116, U179_119, U179_120, U179_122, U179_124, U179_125, U179_128, U179_131, U179_132, U179_135, U179_138, U179_140, U179_144, U179_147, U179_148, U179_150, U179_152, U179_153, U179_156, U179_158, U179_160, U179_161, U179_163, U179_166, X0.1, mp15 X0, mk12 X0, mn12 X0, mp16 X0, mk13 X0, mn13 X0, hA, hat, c1, c2, hneg, nb, V175, d0, M_within, V207, hb, i_add, i_mul, i_idx, i_vp, true_and, and_true, false_and, and_false, if_true, if_false, Nat.reduceAdd, Nat.reduceMul, Nat.reduceSub, Nat.reduceEqDiff, Option.some.injEq, exists_eq_left', true_or, or_true, false_or, or_false, not_true_eq_false, not_false_eq_true, eq_self, and_self, Nat.reduceLeDiff, decide_true, decide_false, ne_eq, Nat.left_eq_add, Nat.add_eq_left, Nat.add_left_cancel_iff, Nat.add_zero]
        refine Wp_use (M_pack X0 K (by omega)) ?_
        rintro _ h2 ⟨rfl, K2, f2⟩
        rw [lo8_of] at K2
        simp (disch := omega) only [V177, U179_0, U179_2, U179_4, U179_5, U179_6, U179_7, U179_8, U179_9, U179_10, U179_11, U179_13, U179_14, U179_17, U179_19, U179_20, U179_23, U179_24, U179_25, U179_28, U179_30, U179_31, U179_34, U179_35, U179_39, U179_40, U179_43, U179_45, U179_46, U179_49, U179_50, U179_51, U179_54, U179_56, U179_58, U179_59, U179_61, U179_62, U179_63, U179_66, U179_69, U179_72, U179_73, U179_74, U179_77, U179_79, U179_80, U179_82, U179_84, U179_85, U179_86, U179_87, U179_88, U179_91, U179_92, U179_94, U179_96, U179_99, U179_100, U179_101, U179_104, U179_107, U179_109, U179_111, U179_113, U179_116, U179_119, U179_120, U179_122, U179_124, U179_125, U179_128, U179_131, U179_132, U179_135, U179_138, U179_140, U179_144, U179_147, U179_148, U179_150, U179_152, U179_153, U179_156, U179_158, U179_160, U179_161, U179_163, U179_166, true_and, and_true, false_and, and_false, if_true, if_false, Nat.reduceAdd, Nat.reduceMul, Nat.reduceSub, Nat.reduceEqDiff, Option.some.injEq, exists_eq_left', true_or, or_true, false_or, or_false, not_true_eq_false, not_false_eq_true, eq_self, and_self, Nat.reduceLeDiff, decide_true, decide_false, ne_eq, Nat.left_eq_add, Nat.add_eq_left, Nat.add_left_cancel_iff, Nat.add_zero]
        have k4 := key 4 h2 _ (by omega) f2 K2 (by rw [List.length_append, List.length_singleton]; omega)
        rw [show Int32.ofNat (8 * 4) - Int32.ofNat 8 = Int32.ofNat 24 by decide] at k4
        refine Wp_use k4 ?_
        rintro _ h3 ⟨rfl, K3, f3⟩
        rw [List.append_assoc] at K3
        exact ⟨rfl, K3, f3⟩
      · rw [if_neg d1]
        have hb : ¬ bz (¬ y - la < -(Int32.ofNat 60) ∧ ¬ Int32.ofNat 60 < y - la) = Int32.ofNat 0 := by rw [bz_0]; exact fun z => z ⟨fun q => d1 (Or.inl q), fun q => d1 (Or.inr q)⟩
        simp (disch := omega) only [U179_0, U179_2, U179_4, U179_5, U179_6, U179_7, U179_8, U179_9, U179_10, U179_11, U179_13, U179_14, U179_17, U179_19, U179_20, U179_23, U179_24, U179_25, U179_28, U179_30, U179_31, U179_34, U179_35, U179_39, U179_40, U179_43, U179_45, U179_46, U179_49, U179_50, U179_51, U179_54, U179_56, U179_58, U179_59, U179_61, U179_62, U179_63, U179_66, U179_69, U179_72, U179_73, U179_74, U179_77, U179_79, U179_80, U179_82, U179_84, U179_85, U179_86, U179_87, U179_88, U179_91, U179_92, U179_94, U179_96, U179_99, U179_100, U179_101, U179_104, U179_107, U179_109, U179_111, U179_113, U179_116, U179_119, U179_120, U179_122, U179_124, U179_125, U179_128, U179_131, U179_132, U179_135, U179_138, U179_140, U179_144, U179_147, U179_148, U179_150, U179_152, U179_153, U179_156, U179_158, U179_160, U179_161, U179_163, U179_166, X0.1, mp15 X0, mk12 X0, mn12 X0, mp16 X0, mk13 X0, mn13 X0, hA, hat, c1, c2, hneg, nb, V175, d0, M_within, V207, hb, i_add, i_mul, i_idx, i_vp, true_and, and_true, false_and, and_false, if_true, if_false, Nat.reduceAdd, Nat.reduceMul, Nat.reduceSub, Nat.reduceEqDiff, Option.some.injEq, exists_eq_left', true_or, or_true, false_or, or_false, not_true_eq_false, not_false_eq_true, eq_self, and_self, Nat.reduceLeDiff, decide_true, decide_false, ne_eq, Nat.left_eq_add, Nat.add_eq_left, Nat.add_left_cancel_iff, Nat.add_zero]
        refine Wp_use (M_pack X0 K (by omega)) ?_
        rintro _ h2 ⟨rfl, K2, f2⟩
        simp (disch := omega) only [V177, U179_0, U179_2, U179_4, U179_5, U179_6, U179_7, U179_8, U179_9, U179_10, U179_11, U179_13, U179_14, U179_17, U179_19, U179_20, U179_23, U179_24, U179_25, U179_28, U179_30, U179_31, U179_34, U179_35, U179_39, U179_40, U179_43, U179_45, U179_46, U179_49, U179_50, U179_51, U179_54, U179_56, U179_58, U179_59, U179_61, U179_62, U179_63, U179_66, U179_69, U179_72, U179_73, U179_74, U179_77, U179_79, U179_80, U179_82, U179_84, U179_85, U179_86, U179_87, U179_88, U179_91, U179_92, U179_94, U179_96, U179_99, U179_100, U179_101, U179_104, U179_107, U179_109, U179_111, U179_113, U179_116, U179_119, U179_120, U179_122, U179_124, U179_125, U179_128, U179_131, U179_132, U179_135, U179_138, U179_140, U179_144, U179_147, U179_148, U179_150, U179_152, U179_153, U179_156, U179_158, U179_160, U179_161, U179_163, U179_166, true_and, and_true, false_and, and_false, if_true, if_false, Nat.reduceAdd, Nat.reduceMul, Nat.reduceSub, Nat.reduceEqDiff, Option.some.injEq, exists_eq_left', true_or, or_true, false_or, or_false, not_true_eq_false, not_false_eq_true, eq_self, and_self, Nat.reduceLeDiff, decide_true, decide_false, ne_eq, Nat.left_eq_add, Nat.add_eq_left, Nat.add_left_cancel_iff, Nat.add_zero]
        exact ⟨K2, f2⟩
end
