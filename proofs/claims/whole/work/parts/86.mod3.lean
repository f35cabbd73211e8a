/-! ===== the model: name, rotate, crash ===== -/
section
variable {h h' : MH_} {m : Nat} {S : Nat → Nat → Prop} {tx : List Nat} {si : List (List Tok)} {nm : Nat → List Nat} {ar : List Arg} {wr : Nat → Wr} {fl : List Nat} {du : Nat} {cu : Bool} {es : List Ev} {br : Nat} {tm : List Tm}
theorem prn_take {l : List Nat} {k : Nat} (hk : k < l.length) : prn (l.take (k + 1)) = (prn (l.take k) && decide (sg (l.getD k 0))) := by
  unfold prn
  rw [List.take_succ_eq_append_getElem hk, List.all_append, gD_in hk]
  simp
theorem M_name {t c : Int32} (X : MM h m tx si nm ar wr fl du cu es br tm) : Wp 172 0 [.ref m, .int t, .int c, .null, .null, .null, .null] [] h (@ite _ (nmOk t c) (nmD t c) (@ite _ (nmT tx) (nmU tx) (PM h m .null 0 [] si (nmS nm t c tx) ar wr fl du cu es br tm) (PM h m .null 2 [] si nm ar wr fl du cu es br tm)) (PM h m .null 1 [] si nm ar wr fl du cu es br tm)) := by
  obtain ⟨X0, X1, X2, X3, X4, X5, X6, X7, X8⟩ := X
  have h200 := X1.2.1
  have tl : tx.length < 2147483648 := by omega
  have thr : ∀ k, PM h m .null k [] si nm ar wr fl du cu es br tm (.inl .null) (sI_ (sI_ h m 1 (Int32.ofNat 0)) m 0 (Int32.ofNat k)) := by
    intro k
    have f : Fz (fun a i => a = m ∧ (i = 0 ∨ i = 1)) h (sI_ (sI_ h m 1 (Int32.ofNat 0)) m 0 (Int32.ofNat k)) := (Fz.rfl'.sI ⟨rfl, Or.inr rfl⟩).sI ⟨rfl, Or.inl rfl⟩
    exact ⟨rfl, by rw [z_gI_sI, if_pos ⟨rfl, rfl⟩], f.mono (fun a i z => by omega), X0.fz f, MT.nil f (by rw [z_gI_sI, if_neg (by omega), z_gI_sI, if_pos ⟨rfl, rfl⟩]), X2.fz f (by intro a i z w; omega), X3.fz f (by intro a i z w; omega), X4.fz f (by intro a i z w; omega), X5.fz f (by intro a i z w; omega), X6.fz f (by intro a i z w; omega), X7.fz f (by intro a i z w; omega), X8.fz f (by intro a i z w; omega)⟩
  -- the name goes into its row
  have wri : ∀ (a b : Nat) (g : Int32), t = Int32.ofNat a → c = Int32.ofNat b → a < 8 → b < 32 → tx.length ≤ 12 → ∀ n k h1, k + n = tx.length → Fz (fun q i => (q = m ∧ (i = 0 ∨ i = 1)) ∨ (q = m + 4 ∧ i = 32 * a + b) ∨ (q = m + 5 ∧ 12 * (32 * a + b) ≤ i ∧ i < 12 * (32 * a + b) + 12)) h h1 → gI_ h1 m 0 = Int32.ofNat 0 → gI_ h1 m 1 = Int32.ofNat 0 → gI_ h1 (m + 4) (32 * a + b) = Int32.ofNat tx.length → Cp h1 (m + 5) (12 * (32 * a + b)) tx k → Wp 172 128 [.ref m, .int t, .int c, .int (Int32.ofNat tx.length), .int g, .int (Int32.ofNat (32 * a + b)), .int (Int32.ofNat k)] [] h1 (PM h m .null 0 [] si (nmS nm t c tx) ar wr fl du cu es br tm) := by
    intro a b g ht hc ha hb h12 n
    have ena : nmAt t c = 32 * a + b := by unfold nmAt; rw [ht, hc, i_idx (by omega), i_idx (by omega)]; omega
    induction n with
    | zero =>
      intro k h1 hk f1 e0 e1 e4 cp
      obtain rfl : k = tx.length := by omega
      rw [U172_128]
      simp (disch := omega) only [U172_0, U172_1, U172_4, U172_5, U172_6, U172_7, U172_10, U172_11, U172_12, U172_14, U172_17, U172_19, U172_20, U172_24, U172_25, U172_28, U172_30, U172_33, U172_34, U172_37, U172_39, U172_40, U172_42, U172_44, U172_47, U172_50, U172_51, U172_54, U172_55, U172_57, U172_60, U172_63, U172_64, U172_65, U172_66, U172_68, U172_71, U172_74, U172_75, U172_76, U172_78, U172_81, U172_84, U172_85, U172_88, U172_90, U172_93, U172_94, U172_97, U172_98, U172_101, U172_102, U172_105, U172_108, U172_109, U172_111, U172_112, U172_113, U172_114, U172_115, U172_117, U172_118, U172_121, U172_123, U172_124, U172_125, U172_126, U172_130, U172_131, U172_134, U172_135, U172_138, U172_140, U172_142, U172_143, U172_145, U172_146, U172_147, U172_150, U172_152, U172_153, U172_154, U172_157, U172_160, show ¬ tx.length < tx.length by omega, i_add, i_mul, i_sub, i_addn, i_lt, i_eq, i_idx, i_vp, true_and, and_true, false_and, and_false, if_true, if_false, Nat.reduceAdd, Nat.reduceMul, Nat.reduceSub, Nat.reduceEqDiff, Option.some.injEq, exists_eq_left', true_or, or_true, false_or, or_false, not_true_eq_false, not_false_eq_true, eq_self, and_self, Nat.reduceLeDiff, decide_true, decide_false, ne_eq, Nat.left_eq_add, Nat.add_eq_left, Nat.add_left_cancel_iff, Nat.add_zero]
      refine ⟨rfl, e0, f1.mono (fun a i z => by omega), X0.fz f1, MT.nil f1 e1, X2.fz f1 (by intro a i z w; omega), fun q hq => ?_, X4.fz f1 (by intro a i z w; omega), X5.fz f1 (by intro a i z w; omega), X6.fz f1 (by intro a i z w; omega), X7.fz f1 (by intro a i z w; omega), X8.fz f1 (by intro a i z w; omega)⟩
      unfold nmS
      by_cases hqn : q = nmAt t c
      · rw [if_pos hqn, hqn, ena]
        exact ⟨e4, h12, cp, X1.2.2.2⟩
      · rw [if_neg hqn]
        rw [ena] at hqn
        obtain ⟨y1, y2, y3, y4⟩ := X3 q hq
        exact ⟨by rw [f1.gI (by omega)]; exact y1, y2, fun j hj => by rw [f1.gI (by omega)]; exact y3 j hj, y4⟩
    | succ n ih =>
      intro k h1 hk f1 e0 e1 e4 cp
      have et : gI_ h1 (m + 1) k = Int32.ofNat (tx.getD k 0) := by rw [f1.gI (by omega), X1.2.2.1 k (by omega)]
      have Y0 := X0.fz f1
      rw [U172_128]
      simp (disch := omega) only [U172_0, U172_1, U172_4, U172_5, U172_6, U172_7, U172_10, U172_11, U172_12, U172_14, U172_17, U172_19, U172_20, U172_24, U172_25, U172_28, U172_30, U172_33, U172_34, U172_37, U172_39, U172_40, U172_42, U172_44, U172_47, U172_50, U172_51, U172_54, U172_55, U172_57, U172_60, U172_63, U172_64, U172_65, U172_66, U172_68, U172_71, U172_74, U172_75, U172_76, U172_78, U172_81, U172_84, U172_85, U172_88, U172_90, U172_93, U172_94, U172_97, U172_98, U172_101, U172_102, U172_105, U172_108, U172_109, U172_111, U172_112, U172_113, U172_114, U172_115, U172_117, U172_118, U172_121, U172_123, U172_124, U172_125, U172_126, U172_130, U172_131, U172_134, U172_135, U172_138, U172_140, U172_142, U172_143, U172_145, U172_146, U172_147, U172_150, U172_152, U172_153, U172_154, U172_157, U172_160, Y0.1, mp7 Y0, mp2 Y0, mk5 Y0, mn5 Y0, mk1 Y0, mn1 Y0, et, show k < tx.length by omega, show k < 200 by omega, show 12 * (32 * a + b) + k < 3072 by omega, i_add, i_mul, i_sub, i_addn, i_lt, i_eq, i_idx, i_vp, true_and, and_true, false_and, and_false, if_true, if_false, Nat.reduceAdd, Nat.reduceMul, Nat.reduceSub, Nat.reduceEqDiff, Option.some.injEq, exists_eq_left', true_or, or_true, false_or, or_false, not_true_eq_false, not_false_eq_true, eq_self, and_self, Nat.reduceLeDiff, decide_true, decide_false, ne_eq, Nat.left_eq_add, Nat.add_eq_left, Nat.add_left_cancel_iff, Nat.add_zero]
      refine ih (k + 1) _ (by omega) (f1.sI (Or.inr (Or.inr ⟨rfl, by omega, by omega⟩))) ?_ ?_ ?_ cp.step
      · rw [z_gI_sI, if_neg (by omega), e0]
      · rw [z_gI_sI, if_neg (by omega), e1]
      · rw [z_gI_sI, if_neg (by omega), e4]
  -- what is behind the first loop
  have rest : ∀ y, Wp 172 63 [.ref m, .int t, .int c, .int (Int32.ofNat tx.length), .int (@bz (nmT tx) (nmU tx)), .int y, .null] [] (sI_ h m 1 (Int32.ofNat 0)) (@ite _ (nmOk t c) (nmD t c) (@ite _ (nmT tx) (nmU tx) (PM h m .null 0 [] si (nmS nm t c tx) ar wr fl du cu es br tm) (PM h m .null 2 [] si nm ar wr fl du cu es br tm)) (PM h m .null 1 [] si nm ar wr fl du cu es br tm)) := by
    intro y
    have kk : kd_ (sI_ h m 1 (Int32.ofNat 0)) m = 13 := X0.1
    by_cases c1 : nmOk t c
    · rw [if_pos c1]
      have ta : ¬ t < Int32.ofNat 0 := fun z => c1 (Or.inl z)
      have ca : ¬ c < Int32.ofNat 0 := fun z => c1 (Or.inr (Or.inr (Or.inl z)))
      obtain ⟨a, ha, rfl⟩ := i_nat ta
      obtain ⟨b, hb, rfl⟩ := i_nat ca
      have ab : a < 8 ∧ b < 32 := by unfold nmOk at c1; rw [i_lt ha (by omega), i_lt (by omega) ha, i_lt hb (by omega), i_lt (by omega) hb] at c1; omega
      have w1 : 0 ≤ a ∧ a ≤ 7 := by omega
      have w2 : 0 ≤ b ∧ b ≤ 31 := by omega
      by_cases c2 : nmT tx
      · rw [if_pos c2]
        have bb : ¬ (@bz (nmT tx) (nmU tx)) = Int32.ofNat 0 := by rw [@bz_0 _ (nmU tx)]; exact fun z => z c2
        simp (disch := omega) only [U172_0, U172_1, U172_4, U172_5, U172_6, U172_7, U172_10, U172_11, U172_12, U172_14, U172_17, U172_19, U172_20, U172_24, U172_25, U172_28, U172_30, U172_33, U172_34, U172_37, U172_39, U172_40, U172_42, U172_44, U172_47, U172_50, U172_51, U172_54, U172_55, U172_57, U172_60, U172_63, U172_64, U172_65, U172_66, U172_68, U172_71, U172_74, U172_75, U172_76, U172_78, U172_81, U172_84, U172_85, U172_88, U172_90, U172_93, U172_94, U172_97, U172_98, U172_101, U172_102, U172_105, U172_108, U172_109, U172_111, U172_112, U172_113, U172_114, U172_115, U172_117, U172_118, U172_121, U172_123, U172_124, U172_125, U172_126, U172_130, U172_131, U172_134, U172_135, U172_138, U172_140, U172_142, U172_143, U172_145, U172_146, U172_147, U172_150, U172_152, U172_153, U172_154, U172_157, U172_160, M_withinN, V207, bz_0, w1, w2, bb, z_kd_sI, z_ln_sI, z_gI_sI, z_gJ_sI, z_gP_sI, z_nx_sI, z_rc_sI, z_rs_sI, z_em_sI, z_mi_sI, z_kd_sJ, z_ln_sJ, z_gI_sJ, z_gJ_sJ, z_gP_sJ, z_nx_sJ, z_rc_sJ, z_rs_sJ, z_em_sJ, z_mi_sJ, z_kd_sP, z_ln_sP, z_gI_sP, z_gJ_sP, z_gP_sP, z_nx_sP, z_rc_sP, z_rs_sP, z_em_sP, z_mi_sP, z_kd_nw, z_ln_nw, z_gI_nw, z_gJ_nw, z_gP_nw, z_nx_nw, z_rc_nw, z_rs_nw, z_em_nw, z_mi_nw, z_kd_cI, z_ln_cI, z_gI_cI, z_gJ_cI, z_gP_cI, z_nx_cI, z_rc_cI, z_rs_cI, z_em_cI, z_mi_cI, z_kd_cP, z_ln_cP, z_gI_cP, z_gJ_cP, z_gP_cP, z_nx_cP, z_rc_cP, z_rs_cP, z_em_cP, z_mi_cP, z_kd_wI, z_ln_wI, z_gI_wI, z_gJ_wI, z_gP_wI, z_nx_wI, z_rc_wI, z_rs_wI, z_em_wI, z_mi_wI, z_kd_wJ, z_ln_wJ, z_gI_wJ, z_gJ_wJ, z_gP_wJ, z_nx_wJ, z_rc_wJ, z_rs_wJ, z_em_wJ, z_mi_wJ, X0.1, mp6 X0, mk4 X0, mn4 X0, show 32 * a + b < 256 by omega, show ¬ (0 : Nat) < 0 by omega, i_add, i_mul, i_sub, i_addn, i_lt, i_eq, i_idx, i_vp, true_and, and_true, false_and, and_false, if_true, if_false, Nat.reduceAdd, Nat.reduceMul, Nat.reduceSub, Nat.reduceEqDiff, Option.some.injEq, exists_eq_left', true_or, or_true, false_or, or_false, not_true_eq_false, not_false_eq_true, eq_self, and_self, Nat.reduceLeDiff, decide_true, decide_false, ne_eq, Nat.left_eq_add, Nat.add_eq_left, Nat.add_left_cancel_iff, Nat.add_zero]
        refine wri a b _ rfl rfl ab.1 ab.2 c2.2.1 tx.length 0 _ (by omega) (((Fz.rfl'.sI (Or.inl ⟨rfl, Or.inr rfl⟩)).sI (Or.inl ⟨rfl, Or.inl rfl⟩)).sI (Or.inr (Or.inl ⟨rfl, rfl⟩))) ?_ ?_ ?_ (fun j hj => absurd hj (Nat.not_lt_zero _))
        · rw [z_gI_sI, if_neg (by omega), z_gI_sI, if_pos ⟨rfl, rfl⟩]
        · rw [z_gI_sI, if_neg (by omega), z_gI_sI, if_neg (by omega), z_gI_sI, if_pos ⟨rfl, rfl⟩]
        · rw [z_gI_sI, if_pos ⟨rfl, rfl⟩]
      · rw [if_neg c2]
        have bb : (@bz (nmT tx) (nmU tx)) = Int32.ofNat 0 := by rw [@bz_0 _ (nmU tx)]; exact c2
        simp (disch := omega) only [U172_0, U172_1, U172_4, U172_5, U172_6, U172_7, U172_10, U172_11, U172_12, U172_14, U172_17, U172_19, U172_20, U172_24, U172_25, U172_28, U172_30, U172_33, U172_34, U172_37, U172_39, U172_40, U172_42, U172_44, U172_47, U172_50, U172_51, U172_54, U172_55, U172_57, U172_60, U172_63, U172_64, U172_65, U172_66, U172_68, U172_71, U172_74, U172_75, U172_76, U172_78, U172_81, U172_84, U172_85, U172_88, U172_90, U172_93, U172_94, U172_97, U172_98, U172_101, U172_102, U172_105, U172_108, U172_109, U172_111, U172_112, U172_113, U172_114, U172_115, U172_117, U172_118, U172_121, U172_123, U172_124, U172_125, U172_126, U172_130, U172_131, U172_134, U172_135, U172_138, U172_140, U172_142, U172_143, U172_145, U172_146, U172_147, U172_150, U172_152, U172_153, U172_154, U172_157, U172_160, M_withinN, V207, bz_0, w1, w2, bb, z_kd_sI, z_ln_sI, z_gI_sI, z_gJ_sI, z_gP_sI, z_nx_sI, z_rc_sI, z_rs_sI, z_em_sI, z_mi_sI, z_kd_sJ, z_ln_sJ, z_gI_sJ, z_gJ_sJ, z_gP_sJ, z_nx_sJ, z_rc_sJ, z_rs_sJ, z_em_sJ, z_mi_sJ, z_kd_sP, z_ln_sP, z_gI_sP, z_gJ_sP, z_gP_sP, z_nx_sP, z_rc_sP, z_rs_sP, z_em_sP, z_mi_sP, z_kd_nw, z_ln_nw, z_gI_nw, z_gJ_nw, z_gP_nw, z_nx_nw, z_rc_nw, z_rs_nw, z_em_nw, z_mi_nw, z_kd_cI, z_ln_cI, z_gI_cI, z_gJ_cI, z_gP_cI, z_nx_cI, z_rc_cI, z_rs_cI, z_em_cI, z_mi_cI, z_kd_cP, z_ln_cP, z_gI_cP, z_gJ_cP, z_gP_cP, z_nx_cP, z_rc_cP, z_rs_cP, z_em_cP, z_mi_cP, z_kd_wI, z_ln_wI, z_gI_wI, z_gJ_wI, z_gP_wI, z_nx_wI, z_rc_wI, z_rs_wI, z_em_wI, z_mi_wI, z_kd_wJ, z_ln_wJ, z_gI_wJ, z_gJ_wJ, z_gP_wJ, z_nx_wJ, z_rc_wJ, z_rs_wJ, z_em_wJ, z_mi_wJ, X0.1, show (0 : Nat) < 2 by omega, i_add, i_mul, i_sub, i_addn, i_lt, i_eq, i_idx, i_vp, true_and, and_true, false_and, and_false, if_true, if_false, Nat.reduceAdd, Nat.reduceMul, Nat.reduceSub, Nat.reduceEqDiff, Option.some.injEq, exists_eq_left', true_or, or_true, false_or, or_false, not_true_eq_false, not_false_eq_true, eq_self, and_self, Nat.reduceLeDiff, decide_true, decide_false, ne_eq, Nat.left_eq_add, Nat.add_eq_left, Nat.add_left_cancel_iff, Nat.add_zero]
        exact thr 2
    · rw [if_neg c1]
      by_cases d1 : ¬ t < Int32.ofNat 0 ∧ ¬ Int32.ofNat 7 < t
      · have d2 : ¬ (¬ c < Int32.ofNat 0 ∧ ¬ Int32.ofNat 31 < c) := fun z => c1 (fun y => by rcases y with y | y | y | y; exact d1.1 y; exact d1.2 y; exact z.1 y; exact z.2 y)
        have e1 : ¬ bz (¬ t < Int32.ofNat 0 ∧ ¬ Int32.ofNat 7 < t) = Int32.ofNat 0 := by rw [bz_0]; exact fun z => z d1
        have e2 : bz (¬ c < Int32.ofNat 0 ∧ ¬ Int32.ofNat 31 < c) = Int32.ofNat 0 := by rw [bz_0]; exact d2
        simp (disch := omega) only [U172_0, U172_1, U172_4, U172_5, U172_6, U172_7, U172_10, U172_11, U172_12, U172_14, U172_17, U172_19, U172_20, U172_24, U172_25, U172_28, U172_30, U172_33, U172_34, U172_37, U172_39, U172_40, U172_42, U172_44, U172_47, U172_50, U172_51, U172_54, U172_55, U172_57, U172_60, U172_63, U172_64, U172_65, U172_66, U172_68, U172_71, U172_74, U172_75, U172_76, U172_78, U172_81, U172_84, U172_85, U172_88, U172_90, U172_93, U172_94, U172_97, U172_98, U172_101, U172_102, U172_105, U172_108, U172_109, U172_111, U172_112, U172_113, U172_114, U172_115, U172_117, U172_118, U172_121, U172_123, U172_124, U172_125, U172_126, U172_130, U172_131, U172_134, U172_135, U172_138, U172_140, U172_142, U172_143, U172_145, U172_146, U172_147, U172_150, U172_152, U172_153, U172_154, U172_157, U172_160, M_within, V207, e1, e2, z_kd_sI, z_ln_sI, z_gI_sI, z_gJ_sI, z_gP_sI, z_nx_sI, z_rc_sI, z_rs_sI, z_em_sI, z_mi_sI, z_kd_sJ, z_ln_sJ, z_gI_sJ, z_gJ_sJ, z_gP_sJ, z_nx_sJ, z_rc_sJ, z_rs_sJ, z_em_sJ, z_mi_sJ, z_kd_sP, z_ln_sP, z_gI_sP, z_gJ_sP, z_gP_sP, z_nx_sP, z_rc_sP, z_rs_sP, z_em_sP, z_mi_sP, z_kd_nw, z_ln_nw, z_gI_nw, z_gJ_nw, z_gP_nw, z_nx_nw, z_rc_nw, z_rs_nw, z_em_nw, z_mi_nw, z_kd_cI, z_ln_cI, z_gI_cI, z_gJ_cI, z_gP_cI, z_nx_cI, z_rc_cI, z_rs_cI, z_em_cI, z_mi_cI, z_kd_cP, z_ln_cP, z_gI_cP, z_gJ_cP, z_gP_cP, z_nx_cP, z_rc_cP, z_rs_cP, z_em_cP, z_mi_cP, z_kd_wI, z_ln_wI, z_gI_wI, z_gJ_wI, z_gP_wI, z_nx_wI, z_rc_wI, z_rs_wI, z_em_wI, z_mi_wI, z_kd_wJ, z_ln_wJ, z_gI_wJ, z_gJ_wJ, z_gP_wJ, z_nx_wJ, z_rc_wJ, z_rs_wJ, z_em_wJ, z_mi_wJ, X0.1, show ¬ Int32.ofNat 1 < Int32.ofNat 0 by decide, show Int32.ofNat 0 < Int32.ofNat 1 by decide, true_and, and_true, false_and, and_false, if_true, if_false, Nat.reduceAdd, Nat.reduceMul, Nat.reduceSub, Nat.reduceEqDiff, Option.some.injEq, exists_eq_left', true_or, or_true, false_or, or_false, not_true_eq_false, not_false_eq_true, eq_self, and_self, Nat.reduceLeDiff, decide_true, decide_false, ne_eq, Nat.left_eq_add, Nat.add_eq_left, Nat.add_left_cancel_iff, Nat.add_zero]
        exact thr 1
      · have e1 : bz (¬ t < Int32.ofNat 0 ∧ ¬ Int32.ofNat 7 < t) = Int32.ofNat 0 := by rw [bz_0]; exact d1
        simp (disch := omega) only [U172_0, U172_1, U172_4, U172_5, U172_6, U172_7, U172_10, U172_11, U172_12, U172_14, U172_17, U172_19, U172_20, U172_24, U172_25, U172_28, U172_30, U172_33, U172_34, U172_37, U172_39, U172_40, U172_42, U172_44, U172_47, U172_50, U172_51, U172_54, U172_55, U172_57, U172_60, U172_63, U172_64, U172_65, U172_66, U172_68, U172_71, U172_74, U172_75, U172_76, U172_78, U172_81, U172_84, U172_85, U172_88, U172_90, U172_93, U172_94, U172_97, U172_98, U172_101, U172_102, U172_105, U172_108, U172_109, U172_111, U172_112, U172_113, U172_114, U172_115, U172_117, U172_118, U172_121, U172_123, U172_124, U172_125, U172_126, U172_130, U172_131, U172_134, U172_135, U172_138, U172_140, U172_142, U172_143, U172_145, U172_146, U172_147, U172_150, U172_152, U172_153, U172_154, U172_157, U172_160, M_within, V207, e1, z_kd_sI, z_ln_sI, z_gI_sI, z_gJ_sI, z_gP_sI, z_nx_sI, z_rc_sI, z_rs_sI, z_em_sI, z_mi_sI, z_kd_sJ, z_ln_sJ, z_gI_sJ, z_gJ_sJ, z_gP_sJ, z_nx_sJ, z_rc_sJ, z_rs_sJ, z_em_sJ, z_mi_sJ, z_kd_sP, z_ln_sP, z_gI_sP, z_gJ_sP, z_gP_sP, z_nx_sP, z_rc_sP, z_rs_sP, z_em_sP, z_mi_sP, z_kd_nw, z_ln_nw, z_gI_nw, z_gJ_nw, z_gP_nw, z_nx_nw, z_rc_nw, z_rs_nw, z_em_nw, z_mi_nw, z_kd_cI, z_ln_cI, z_gI_cI, z_gJ_cI, z_gP_cI, z_nx_cI, z_rc_cI, z_rs_cI, z_em_cI, z_mi_cI, z_kd_cP, z_ln_cP, z_gI_cP, z_gJ_cP, z_gP_cP, z_nx_cP, z_rc_cP, z_rs_cP, z_em_cP, z_mi_cP, z_kd_wI, z_ln_wI, z_gI_wI, z_gJ_wI, z_gP_wI, z_nx_wI, z_rc_wI, z_rs_wI, z_em_wI, z_mi_wI, z_kd_wJ, z_ln_wJ, z_gI_wJ, z_gJ_wJ, z_gP_wJ, z_nx_wJ, z_rc_wJ, z_rs_wJ, z_em_wJ, z_mi_wJ, X0.1, show ¬ Int32.ofNat 1 < Int32.ofNat 0 by decide, show Int32.ofNat 0 < Int32.ofNat 1 by decide, true_and, and_true, false_and, and_false, if_true, if_false, Nat.reduceAdd, Nat.reduceMul, Nat.reduceSub, Nat.reduceEqDiff, Option.some.injEq, exists_eq_left', true_or, or_true, false_or, or_false, not_true_eq_false, not_false_eq_true, eq_self, and_self, Nat.reduceLeDiff, decide_true, decide_false, ne_eq, Nat.left_eq_add, Nat.add_eq_left, Nat.add_left_cancel_iff, Nat.add_zero]
        exact thr 1
  have key : ∀ n k, k + n = tx.length → Wp 172 22 [.ref m, .int t, .int c, .int (Int32.ofNat tx.length), .int (bz ((1 ≤ tx.length ∧ tx.length ≤ 12) ∧ prn (tx.take k) = true)), .int (Int32.ofNat k), .null] [] (sI_ h m 1 (Int32.ofNat 0)) (@ite _ (nmOk t c) (nmD t c) (@ite _ (nmT tx) (nmU tx) (PM h m .null 0 [] si (nmS nm t c tx) ar wr fl du cu es br tm) (PM h m .null 2 [] si nm ar wr fl du cu es br tm)) (PM h m .null 1 [] si nm ar wr fl du cu es br tm)) := by
    intro n
    induction n with
    | zero =>
      intro k hk
      obtain rfl : k = tx.length := by omega
      rw [U172_22]
      simp (disch := omega) only [U172_24, U172_25, U172_28, U172_30, U172_33, U172_34, U172_37, U172_39, U172_40, U172_42, U172_44, U172_47, U172_50, U172_51, U172_54, U172_55, U172_57, U172_60, show ¬ tx.length < tx.length by omega, i_add, i_mul, i_sub, i_addn, i_lt, i_eq, i_idx, i_vp, true_and, and_true, false_and, and_false, if_true, if_false, Nat.reduceAdd, Nat.reduceMul, Nat.reduceSub, Nat.reduceEqDiff, Option.some.injEq, exists_eq_left', true_or, or_true, false_or, or_false, not_true_eq_false, not_false_eq_true, eq_self, and_self, Nat.reduceLeDiff, decide_true, decide_false, ne_eq, Nat.left_eq_add, Nat.add_eq_left, Nat.add_left_cancel_iff, Nat.add_zero]
      have eb : bz ((1 ≤ tx.length ∧ tx.length ≤ 12) ∧ prn (tx.take tx.length) = true) = @bz (nmT tx) (nmU tx) := by
        rw [List.take_length]
        by_cases z : nmT tx
        · rw [← bz_t (show (1 ≤ tx.length ∧ tx.length ≤ 12) ∧ prn tx = true from ⟨⟨z.1, z.2.1⟩, z.2.2⟩), ← @bz_t _ (nmU tx) z]
        · rw [← bz_f (show ¬ ((1 ≤ tx.length ∧ tx.length ≤ 12) ∧ prn tx = true) from fun y => z ⟨y.1.1, y.1.2, y.2⟩), ← @bz_f _ (nmU tx) z]
      rw [eb]
      exact rest _
    | succ n ih =>
      intro k hk
      have hk' : k < tx.length := by omega
      have et : gI_ (sI_ h m 1 (Int32.ofNat 0)) (m + 1) k = Int32.ofNat (tx.getD k 0) := by rw [z_gI_sI, if_neg (by omega), X1.2.2.1 k hk']
      have hb256 : tx.getD k 0 < 256 := gD_lt X1.2.2.2 k
      have pt := prn_take hk'
      have go := ih (k + 1) (by omega)
      rw [U172_22]
      by_cases hg : (1 ≤ tx.length ∧ tx.length ≤ 12) ∧ prn (tx.take k) = true
      · have b1 : ¬ bz ((1 ≤ tx.length ∧ tx.length ≤ 12) ∧ prn (tx.take k) = true) = Int32.ofNat 0 := by rw [bz_0]; exact fun z => z hg
        by_cases hsg : 32 ≤ tx.getD k 0 ∧ tx.getD k 0 ≤ 126
        · have e2 : bz ((1 ≤ tx.length ∧ tx.length ≤ 12) ∧ prn (tx.take (k + 1)) = true) = Int32.ofNat 1 := (bz_t ⟨hg.1, by rw [pt, hg.2, Bool.true_and]; exact decide_eq_true hsg⟩).symm
          rw [e2] at go
          simp (disch := omega) only [U172_24, U172_25, U172_28, U172_30, U172_33, U172_34, U172_37, U172_39, U172_40, U172_42, U172_44, U172_47, U172_50, U172_51, U172_54, U172_55, U172_57, U172_60, hk', b1, z_kd_sI, z_gP_sI, z_ln_sI, X0.1, mp2 X0, mk1 X0, mn1 X0, et, M_withinN, V207, bz_0, hsg, show k < 200 by omega, i_add, i_mul, i_sub, i_addn, i_lt, i_eq, i_idx, i_vp, true_and, and_true, false_and, and_false, if_true, if_false, Nat.reduceAdd, Nat.reduceMul, Nat.reduceSub, Nat.reduceEqDiff, Option.some.injEq, exists_eq_left', true_or, or_true, false_or, or_false, not_true_eq_false, not_false_eq_true, eq_self, and_self, Nat.reduceLeDiff, decide_true, decide_false, ne_eq, Nat.left_eq_add, Nat.add_eq_left, Nat.add_left_cancel_iff, Nat.add_zero]
          exact go
        · have e2 : bz ((1 ≤ tx.length ∧ tx.length ≤ 12) ∧ prn (tx.take (k + 1)) = true) = Int32.ofNat 0 := (bz_f (fun z => hsg (by have := z.2; rw [pt, hg.2, Bool.true_and] at this; exact of_decide_eq_true this))).symm
          rw [e2] at go
          simp (disch := omega) only [U172_24, U172_25, U172_28, U172_30, U172_33, U172_34, U172_37, U172_39, U172_40, U172_42, U172_44, U172_47, U172_50, U172_51, U172_54, U172_55, U172_57, U172_60, hk', b1, z_kd_sI, z_gP_sI, z_ln_sI, X0.1, mp2 X0, mk1 X0, mn1 X0, et, M_withinN, V207, bz_0, hsg, show k < 200 by omega, i_add, i_mul, i_sub, i_addn, i_lt, i_eq, i_idx, i_vp, true_and, and_true, false_and, and_false, if_true, if_false, Nat.reduceAdd, Nat.reduceMul, Nat.reduceSub, Nat.reduceEqDiff, Option.some.injEq, exists_eq_left', true_or, or_true, false_or, or_false, not_true_eq_false, not_false_eq_true, eq_self, and_self, Nat.reduceLeDiff, decide_true, decide_false, ne_eq, Nat.left_eq_add, Nat.add_eq_left, Nat.add_left_cancel_iff, Nat.add_zero]
          exact go
      · have b1 : bz ((1 ≤ tx.length ∧ tx.length ≤ 12) ∧ prn (tx.take k) = true) = Int32.ofNat 0 := by rw [bz_0]; exact hg
        have e2 : bz ((1 ≤ tx.length ∧ tx.length ≤ 12) ∧ prn (tx.take (k + 1)) = true) = Int32.ofNat 0 := (bz_f (fun z => hg ⟨z.1, by have := z.2; rw [pt, Bool.and_eq_true] at this; exact this.1⟩)).symm
        rw [e2] at go
        simp (disch := omega) only [U172_24, U172_25, U172_28, U172_30, U172_33, U172_34, U172_37, U172_39, U172_40, U172_42, U172_44, U172_47, U172_50, U172_51, U172_54, U172_55, U172_57, U172_60, hk', b1, i_add, i_mul, i_sub, i_addn, i_lt, i_eq, i_idx, i_vp, true_and, and_true, false_and, and_false, if_true, if_false, Nat.reduceAdd, Nat.reduceMul, Nat.reduceSub, Nat.reduceEqDiff, Option.some.injEq, exists_eq_left', true_or, or_true, false_or, or_false, not_true_eq_false, not_false_eq_true, eq_self, and_self, Nat.reduceLeDiff, decide_true, decide_false, ne_eq, Nat.left_eq_add, Nat.add_eq_left, Nat.add_left_cancel_iff, Nat.add_zero]
        exact go
  have k0 := key tx.length 0 (by omega)
  have e0 : bz ((1 ≤ tx.length ∧ tx.length ≤ 12) ∧ prn (tx.take 0) = true) = bz (1 ≤ tx.length ∧ tx.length ≤ 12) := bz_iff ⟨fun z => z.1, fun z => ⟨z, rfl⟩⟩
  rw [e0] at k0
  simp (disch := omega) only [U172_0, U172_1, U172_4, U172_5, U172_6, U172_7, U172_10, U172_11, U172_12, U172_14, U172_17, U172_19, U172_20, M_withinN, V207, X0.1, X1.1, true_and, and_true, false_and, and_false, if_true, if_false, Nat.reduceAdd, Nat.reduceMul, Nat.reduceSub, Nat.reduceEqDiff, Option.some.injEq, exists_eq_left', true_or, or_true, false_or, or_false, not_true_eq_false, not_false_eq_true, eq_self, and_self, Nat.reduceLeDiff, decide_true, decide_false, ne_eq, Nat.left_eq_add, Nat.add_eq_left, Nat.add_left_cancel_iff, Nat.add_zero]
  exact k0
theorem MW.nil {v : Wr} {w : Nat} {wn : Nat → Wr} (X : MW h m wn) (f : Fz S h h') (hS : ∀ a i, S a i → (a = m + 9 ∨ a = m + 15 ∨ a = m + 16) ∧ i = w ∨ ¬ (m + 9 ≤ a ∧ a ≤ m + 16)) (hv : v.1 = []) (h9 : gI_ h' (m + 9) w = Int32.ofNat 0) (h15 : gJ_ h' (m + 15) w = Int64.ofNat v.2.1) (h16 : gI_ h' (m + 16) w = Int32.ofNat v.2.2) : MW h' m (wrS wn w v) := by
  intro q hq
  unfold wrS
  by_cases hqw : q = w
  · subst hqw
    rw [if_pos rfl, hv]
    exact ⟨h9, Nat.zero_le _, h15, h16, fun e p hp => by cases hp⟩
  · rw [if_neg hqw]
    have n : ∀ a i, (a = m + 9 ∨ a = m + 15 ∨ a = m + 16) → i = q → ¬ S a i := fun a i z y v => by have := hS a i v; omega
    have n2 : ∀ a i, (m + 10 ≤ a ∧ a ≤ m + 14) → ¬ S a i := fun a i z v => by have := hS a i v; omega
    obtain ⟨a, b, c, d, e⟩ := X q hq
    refine ⟨by rw [f.gI (n _ _ (by omega) rfl)]; exact a, b, by rw [f.gJ (n _ _ (by omega) rfl)]; exact c, by rw [f.gI (n _ _ (by omega) rfl)]; exact d, fun i p hp => ?_⟩
    obtain ⟨p1, p2, p3, p4⟩ := e i p hp
    exact ⟨by rw [f.gI (n2 _ _ (by omega))]; exact p1, by rw [f.gJ (n2 _ _ (by omega))]; exact p2, p3, fun k g hg => (p4 k g hg).fz f (fun j => n2 _ _ (by omega)) (fun j => n2 _ _ (by omega)) (fun j => n2 _ _ (by omega))⟩
theorem MW.all {wn : Nat → Wr} (X : MW h m (wrU wr wn 4)) : MW h m wn := by
  intro w hw
  have := X w hw
  unfold wrU at this
  rw [if_pos hw] at this
  exact this
theorem wrU_0 {wn : Nat → Wr} : wrU wr wn 0 = wr := by funext q; unfold wrU; rw [if_neg (by omega)]
theorem M_rotate (X : MM h m tx si nm ar wr fl du cu es br tm) : Wp 193 0 [.ref m, .null] [] h (PM h m .null 0 tx si nm ar (fun _ => ([], 0, 0)) [] 0 false es br tm) := by
  obtain ⟨X0, X1, X2, X3, X4, X5, X6, X7, X8⟩ := X
  have key : ∀ n k h1, k + n = 4 → Fz (fun a i => (a = m ∧ (i = 0 ∨ i = 22 ∨ i = 24 ∨ i = 25)) ∨ a = m + 9 ∨ a = m + 15 ∨ a = m + 16) h h1 → gI_ h1 m 0 = Int32.ofNat 0 → MD h1 m [] 0 false → MW h1 m (wrU wr (fun _ => ([], 0, 0)) k) → Wp 193 22 [.ref m, .int (Int32.ofNat k)] [] h1 (PM h m .null 0 tx si nm ar (fun _ => ([], 0, 0)) [] 0 false es br tm) := by
    intro n
    induction n with
    | zero =>
      intro k h1 hk f e0 d1 w1
      obtain rfl : k = 4 := by omega
      rw [U193_22]
      simp (disch := omega) only [U193_0, U193_1, U193_2, U193_5, U193_6, U193_7, U193_10, U193_11, U193_12, U193_15, U193_16, U193_17, U193_20, U193_21, U193_23, U193_24, U193_27, U193_28, U193_31, U193_32, U193_33, U193_34, U193_35, U193_38, U193_39, U193_40, U193_41, U193_42, U193_45, U193_46, U193_47, U193_48, U193_51, U193_54, show ¬ (4 : Nat) < 4 by omega, i_add, i_mul, i_sub, i_addn, i_lt, i_eq, i_idx, i_vp, true_and, and_true, false_and, and_false, if_true, if_false, Nat.reduceAdd, Nat.reduceMul, Nat.reduceSub, Nat.reduceEqDiff, Option.some.injEq, exists_eq_left', true_or, or_true, false_or, or_false, not_true_eq_false, not_false_eq_true, eq_self, and_self, Nat.reduceLeDiff, decide_true, decide_false, ne_eq, Nat.left_eq_add, Nat.add_eq_left, Nat.add_left_cancel_iff, Nat.add_zero]
      exact ⟨rfl, e0, f.mono (fun a i z => by omega), X0.fz f, X1.fz f (by intro a i z w; omega), X2.fz f (by intro a i z w; omega), X3.fz f (by intro a i z w; omega), X4.fz f (by intro a i z w; omega), w1.all, d1, X7.fz f (by intro a i z w; omega), X8.fz f (by intro a i z w; omega)⟩
    | succ n ih =>
      intro k h1 hk f e0 d1 w1
      have hk4 : k < 4 := by omega
      have Y0 := X0.fz f
      rw [U193_22]
      simp (disch := omega) only [U193_0, U193_1, U193_2, U193_5, U193_6, U193_7, U193_10, U193_11, U193_12, U193_15, U193_16, U193_17, U193_20, U193_21, U193_23, U193_24, U193_27, U193_28, U193_31, U193_32, U193_33, U193_34, U193_35, U193_38, U193_39, U193_40, U193_41, U193_42, U193_45, U193_46, U193_47, U193_48, U193_51, U193_54, z_kd_sI, z_ln_sI, z_gP_sI, z_kd_sJ, z_ln_sJ, z_gP_sJ, Y0.1, mp12 Y0, mp18 Y0, mp19 Y0, mk9 Y0, mn9 Y0, mk15 Y0, mn15 Y0, mk16 Y0, mn16 Y0, hk4, i_add, i_mul, i_sub, i_addn, i_lt, i_eq, i_idx, i_vp, true_and, and_true, false_and, and_false, if_true, if_false, Nat.reduceAdd, Nat.reduceMul, Nat.reduceSub, Nat.reduceEqDiff, Option.some.injEq, exists_eq_left', true_or, or_true, false_or, or_false, not_true_eq_false, not_false_eq_true, eq_self, and_self, Nat.reduceLeDiff, decide_true, decide_false, ne_eq, Nat.left_eq_add, Nat.add_eq_left, Nat.add_left_cancel_iff, Nat.add_zero]
      have f2 : Fz (fun a i => (a = m + 9 ∨ a = m + 15 ∨ a = m + 16) ∧ i = k) h1 (sI_ (sJ_ (sI_ h1 (m + 9) k (Int32.ofNat 0)) (m + 15) k (Int64.ofNat 0)) (m + 16) k (Int32.ofNat 0)) := ((Fz.rfl'.sI ⟨Or.inl rfl, rfl⟩).sJ ⟨Or.inr (Or.inl rfl), rfl⟩).sI ⟨Or.inr (Or.inr rfl), rfl⟩
      refine ih (k + 1) _ (by omega) (f.trans (f2.mono (fun a i z => by omega))) (by rw [f2.gI (by omega), e0]) (d1.fz f2 (by intro a i z w; omega)) ?_
      rw [← wrU_s]
      refine w1.nil f2 (fun a i z => Or.inl z) rfl ?_ ?_ ?_
      · rw [z_gI_sI, if_neg (by omega), z_gI_sJ, z_gI_sI, if_pos ⟨rfl, rfl⟩]
      · rw [z_gJ_sI, z_gJ_sJ, if_pos ⟨rfl, rfl⟩]
      · rw [z_gI_sI, if_pos ⟨rfl, rfl⟩]
  simp (disch := omega) only [U193_0, U193_1, U193_2, U193_5, U193_6, U193_7, U193_10, U193_11, U193_12, U193_15, U193_16, U193_17, U193_20, U193_21, z_kd_sI, X0.1, Nat.reduceEqDiff, i_add, i_mul, i_sub, i_addn, i_lt, i_eq, i_idx, i_vp, true_and, and_true, false_and, and_false, if_true, if_false, Nat.reduceAdd, Nat.reduceMul, Nat.reduceSub, Nat.reduceEqDiff, Option.some.injEq, exists_eq_left', true_or, or_true, false_or, or_false, not_true_eq_false, not_false_eq_true, eq_self, and_self, Nat.reduceLeDiff, decide_true, decide_false, ne_eq, Nat.left_eq_add, Nat.add_eq_left, Nat.add_left_cancel_iff, Nat.add_zero]
  have f : Fz (fun a i => a = m ∧ (i = 0 ∨ i = 22 ∨ i = 24 ∨ i = 25)) h (sI_ (sI_ (sI_ (sI_ h m 0 (Int32.ofNat 0)) m 22 (Int32.ofNat 0)) m 24 (Int32.ofNat 0)) m 25 (Int32.ofNat 0)) := (((Fz.rfl'.sI ⟨rfl, by omega⟩).sI ⟨rfl, by omega⟩).sI ⟨rfl, by omega⟩).sI ⟨rfl, by omega⟩
  refine key 4 0 _ (by omega) (f.mono (fun a i z => by omega)) ?_ ⟨?_, Nat.zero_le _, fun i hi => absurd hi (Nat.not_lt_zero _), fun q hq => absurd hq List.not_mem_nil, ?_, Nat.le_refl _, ?_⟩ (by rw [wrU_0]; exact X5.fz f (by intro a i z w; omega))
  · simp only [z_gI_sI]; simp
  · simp only [z_gI_sI]; simp
  · simp only [z_gI_sI]; simp
  · simp only [z_gI_sI]; simp [bz]
theorem M_crash {n : Int32} (X : MM h m tx si nm ar wr fl du cu es br tm) : Wp 152 0 [.ref m, .int n, .null] [] h (if n < Int32.ofNat 0 then PM h m (.int (Int32.ofNat 0)) 1 tx si nm ar wr fl du cu es br tm else if cu = true then PM h m (.int (Int32.ofNat 0)) 2 tx si nm ar wr fl du cu es br tm else PM h m (.int (Int32.ofNat (flC fl du n.toNatClampNeg).length)) 0 tx si nm ar (wrC wr) (flC fl du n.toNatClampNeg) du true es br tm) := by
  have X' := X
  obtain ⟨X0, X1, X2, X3, X4, X5, X6, X7, X8⟩ := X
  obtain ⟨d1, d2, d3, d4, d5, d6, d7⟩ := X6
  by_cases c1 : n < Int32.ofNat 0
  · rw [if_pos c1]
    simp (disch := omega) only [U152_0, U152_1, U152_2, U152_5, U152_6, U152_9, U152_10, U152_13, U152_16, U152_17, U152_20, U152_21, U152_24, U152_25, U152_28, U152_31, U152_32, U152_33, U152_34, U152_35, U152_36, U152_39, U152_40, U152_43, U152_44, U152_47, U152_48, U152_51, U152_52, U152_53, U152_56, U152_57, U152_60, U152_63, U152_64, U152_65, U152_68, U152_69, U152_71, U152_72, U152_75, U152_76, U152_79, U152_80, U152_81, U152_82, U152_85, U152_88, U152_89, U152_92, z_kd_sI, z_ln_sI, z_gI_sI, z_gJ_sI, z_gP_sI, z_nx_sI, z_rc_sI, z_rs_sI, z_em_sI, z_mi_sI, z_kd_sJ, z_ln_sJ, z_gI_sJ, z_gJ_sJ, z_gP_sJ, z_nx_sJ, z_rc_sJ, z_rs_sJ, z_em_sJ, z_mi_sJ, z_kd_sP, z_ln_sP, z_gI_sP, z_gJ_sP, z_gP_sP, z_nx_sP, z_rc_sP, z_rs_sP, z_em_sP, z_mi_sP, z_kd_nw, z_ln_nw, z_gI_nw, z_gJ_nw, z_gP_nw, z_nx_nw, z_rc_nw, z_rs_nw, z_em_nw, z_mi_nw, z_kd_cI, z_ln_cI, z_gI_cI, z_gJ_cI, z_gP_cI, z_nx_cI, z_rc_cI, z_rs_cI, z_em_cI, z_mi_cI, z_kd_cP, z_ln_cP, z_gI_cP, z_gJ_cP, z_gP_cP, z_nx_cP, z_rc_cP, z_rs_cP, z_em_cP, z_mi_cP, z_kd_wI, z_ln_wI, z_gI_wI, z_gJ_wI, z_gP_wI, z_nx_wI, z_rc_wI, z_rs_wI, z_em_wI, z_mi_wI, z_kd_wJ, z_ln_wJ, z_gI_wJ, z_gJ_wJ, z_gP_wJ, z_nx_wJ, z_rc_wJ, z_rs_wJ, z_em_wJ, z_mi_wJ, X0.1, c1, show (0 : Nat) < 1 by omega, i_add, i_mul, i_sub, i_addn, i_lt, i_eq, i_idx, i_vp, true_and, and_true, false_and, and_false, if_true, if_false, Nat.reduceAdd, Nat.reduceMul, Nat.reduceSub, Nat.reduceEqDiff, Option.some.injEq, exists_eq_left', true_or, or_true, false_or, or_false, not_true_eq_false, not_false_eq_true, eq_self, and_self, Nat.reduceLeDiff, decide_true, decide_false, ne_eq, Nat.left_eq_add, Nat.add_eq_left, Nat.add_left_cancel_iff, Nat.add_zero]
    exact X'.pm
  · rw [if_neg c1]
    by_cases c2 : cu = true
    · rw [if_pos c2]
      have d7' : gI_ h m 25 = Int32.ofNat 1 := by rw [d7]; exact (bz_t c2).symm
      simp (disch := omega) only [U152_0, U152_1, U152_2, U152_5, U152_6, U152_9, U152_10, U152_13, U152_16, U152_17, U152_20, U152_21, U152_24, U152_25, U152_28, U152_31, U152_32, U152_33, U152_34, U152_35, U152_36, U152_39, U152_40, U152_43, U152_44, U152_47, U152_48, U152_51, U152_52, U152_53, U152_56, U152_57, U152_60, U152_63, U152_64, U152_65, U152_68, U152_69, U152_71, U152_72, U152_75, U152_76, U152_79, U152_80, U152_81, U152_82, U152_85, U152_88, U152_89, U152_92, z_kd_sI, z_ln_sI, z_gI_sI, z_gJ_sI, z_gP_sI, z_nx_sI, z_rc_sI, z_rs_sI, z_em_sI, z_mi_sI, z_kd_sJ, z_ln_sJ, z_gI_sJ, z_gJ_sJ, z_gP_sJ, z_nx_sJ, z_rc_sJ, z_rs_sJ, z_em_sJ, z_mi_sJ, z_kd_sP, z_ln_sP, z_gI_sP, z_gJ_sP, z_gP_sP, z_nx_sP, z_rc_sP, z_rs_sP, z_em_sP, z_mi_sP, z_kd_nw, z_ln_nw, z_gI_nw, z_gJ_nw, z_gP_nw, z_nx_nw, z_rc_nw, z_rs_nw, z_em_nw, z_mi_nw, z_kd_cI, z_ln_cI, z_gI_cI, z_gJ_cI, z_gP_cI, z_nx_cI, z_rc_cI, z_rs_cI, z_em_cI, z_mi_cI, z_kd_cP, z_ln_cP, z_gI_cP, z_gJ_cP, z_gP_cP, z_nx_cP, z_rc_cP, z_rs_cP, z_em_cP, z_mi_cP, z_kd_wI, z_ln_wI, z_gI_wI, z_gJ_wI, z_gP_wI, z_nx_wI, z_rc_wI, z_rs_wI, z_em_wI, z_mi_wI, z_kd_wJ, z_ln_wJ, z_gI_wJ, z_gJ_wJ, z_gP_wJ, z_nx_wJ, z_rc_wJ, z_rs_wJ, z_em_wJ, z_mi_wJ, X0.1, c1, d7', show ¬ (1 : Nat) = 0 by omega, show (0 : Nat) < 2 by omega, Nat.reduceEqDiff, i_add, i_mul, i_sub, i_addn, i_lt, i_eq, i_idx, i_vp, true_and, and_true, false_and, and_false, if_true, if_false, Nat.reduceAdd, Nat.reduceMul, Nat.reduceSub, Nat.reduceEqDiff, Option.some.injEq, exists_eq_left', true_or, or_true, false_or, or_false, not_true_eq_false, not_false_eq_true, eq_self, and_self, Nat.reduceLeDiff, decide_true, decide_false, ne_eq, Nat.left_eq_add, Nat.add_eq_left, Nat.add_left_cancel_iff, Nat.add_zero]
      exact X'.pm
    · rw [if_neg c2]
      have d7' : gI_ h m 25 = Int32.ofNat 0 := by rw [d7]; exact (bz_f c2).symm
      obtain ⟨q, hq, rfl⟩ := i_nat c1
      rw [i_idx hq]
      have fll : (flC fl du q).length = if q < fl.length - du then du + q else fl.length := by
        unfold flC
        rw [List.length_take]
        split <;> omega
      have key : ∀ n k h1, k + n = 4 → Fz (fun a i => (a = m ∧ (i = 0 ∨ i = 22 ∨ i = 25)) ∨ a = m + 9) h h1 → gI_ h1 m 0 = Int32.ofNat 0 → gI_ h1 m 22 = Int32.ofNat (flC fl du q).length → gI_ h1 m 25 = Int32.ofNat 1 → MW h1 m (wrU wr (wrC wr) k) → Wp 152 70 [.ref m, .int (Int32.ofNat q), .int (Int32.ofNat k)] [] h1 (PM h m (.int (Int32.ofNat (flC fl du q).length)) 0 tx si nm ar (wrC wr) (flC fl du q) du true es br tm) := by
        intro n
        induction n with
        | zero =>
          intro k h1 hk f e0 e1 e2 w1
          obtain rfl : k = 4 := by omega
          rw [U152_70]
          simp (disch := omega) only [U152_0, U152_1, U152_2, U152_5, U152_6, U152_9, U152_10, U152_13, U152_16, U152_17, U152_20, U152_21, U152_24, U152_25, U152_28, U152_31, U152_32, U152_33, U152_34, U152_35, U152_36, U152_39, U152_40, U152_43, U152_44, U152_47, U152_48, U152_51, U152_52, U152_53, U152_56, U152_57, U152_60, U152_63, U152_64, U152_65, U152_68, U152_69, U152_71, U152_72, U152_75, U152_76, U152_79, U152_80, U152_81, U152_82, U152_85, U152_88, U152_89, U152_92, f.kd, X0.1, e1, show ¬ (4 : Nat) < 4 by omega, i_add, i_mul, i_sub, i_addn, i_lt, i_eq, i_idx, i_vp, true_and, and_true, false_and, and_false, if_true, if_false, Nat.reduceAdd, Nat.reduceMul, Nat.reduceSub, Nat.reduceEqDiff, Option.some.injEq, exists_eq_left', true_or, or_true, false_or, or_false, not_true_eq_false, not_false_eq_true, eq_self, and_self, Nat.reduceLeDiff, decide_true, decide_false, ne_eq, Nat.left_eq_add, Nat.add_eq_left, Nat.add_left_cancel_iff, Nat.add_zero]
          have hlen : (flC fl du q).length ≤ fl.length ∧ du ≤ (flC fl du q).length := by rw [fll]; split <;> omega
          refine ⟨rfl, e0, f.mono (fun a i z => by omega), X0.fz f, X1.fz f (by intro a i z w; omega), X2.fz f (by intro a i z w; omega), X3.fz f (by intro a i z w; omega), X4.fz f (by intro a i z w; omega), w1.all, ⟨e1, by omega, fun i hi => ?_, fun y hy => d4 y (List.mem_of_mem_take hy), by rw [f.gI (by omega)]; exact d5, hlen.2, by rw [e2]; rfl⟩, X7.fz f (by intro a i z w; omega), X8.fz f (by intro a i z w; omega)⟩
          rw [f.gI (by omega), d3 i (by omega)]
          unfold flC at hi ⊢
          rw [List.length_take] at hi
          rw [List.getD_eq_getElem?_getD, List.getD_eq_getElem?_getD, List.getElem?_take, if_pos (by omega)]
        | succ n ih =>
          intro k h1 hk f e0 e1 e2 w1
          have hk4 : k < 4 := by omega
          have Y0 := X0.fz f
          rw [U152_70]
          simp (disch := omega) only [U152_0, U152_1, U152_2, U152_5, U152_6, U152_9, U152_10, U152_13, U152_16, U152_17, U152_20, U152_21, U152_24, U152_25, U152_28, U152_31, U152_32, U152_33, U152_34, U152_35, U152_36, U152_39, U152_40, U152_43, U152_44, U152_47, U152_48, U152_51, U152_52, U152_53, U152_56, U152_57, U152_60, U152_63, U152_64, U152_65, U152_68, U152_69, U152_71, U152_72, U152_75, U152_76, U152_79, U152_80, U152_81, U152_82, U152_85, U152_88, U152_89, U152_92, Y0.1, mp12 Y0, mk9 Y0, mn9 Y0, hk4, i_add, i_mul, i_sub, i_addn, i_lt, i_eq, i_idx, i_vp, true_and, and_true, false_and, and_false, if_true, if_false, Nat.reduceAdd, Nat.reduceMul, Nat.reduceSub, Nat.reduceEqDiff, Option.some.injEq, exists_eq_left', true_or, or_true, false_or, or_false, not_true_eq_false, not_false_eq_true, eq_self, and_self, Nat.reduceLeDiff, decide_true, decide_false, ne_eq, Nat.left_eq_add, Nat.add_eq_left, Nat.add_left_cancel_iff, Nat.add_zero]
          have f2 : Fz (fun a i => a = m + 9 ∧ i = k) h1 (sI_ h1 (m + 9) k (Int32.ofNat 0)) := Fz.rfl'.sI ⟨rfl, rfl⟩
          refine ih (k + 1) _ (by omega) (f.trans (f2.mono (fun a i z => by omega))) (by rw [f2.gI (by omega), e0]) (by rw [f2.gI (by omega), e1]) (by rw [f2.gI (by omega), e2]) ?_
          rw [← wrU_s]
          obtain ⟨-, -, y1, y2, -⟩ := w1 k hk4
          have ew : wrU wr (wrC wr) k k = wr k := by unfold wrU; rw [if_neg (by omega)]
          rw [ew] at y1 y2
          exact w1.nil f2 (fun a i z => Or.inl (by omega)) rfl (by rw [z_gI_sI, if_pos ⟨rfl, rfl⟩]) (by rw [f2.gJ (by omega)]; exact y1) (by rw [f2.gI (by omega)]; exact y2)
      have fin : ∀ L, L = (flC fl du q).length → Wp 152 70 [.ref m, .int (Int32.ofNat q), .int (Int32.ofNat 0)] [] (sI_ (sI_ (sI_ h m 0 (Int32.ofNat 0)) m 22 (Int32.ofNat L)) m 25 (Int32.ofNat 1)) (PM h m (.int (Int32.ofNat (flC fl du q).length)) 0 tx si nm ar (wrC wr) (flC fl du q) du true es br tm) := by
        intro L hL
        have f : Fz (fun a i => a = m ∧ (i = 0 ∨ i = 22 ∨ i = 25)) h (sI_ (sI_ (sI_ h m 0 (Int32.ofNat 0)) m 22 (Int32.ofNat L)) m 25 (Int32.ofNat 1)) := ((Fz.rfl'.sI ⟨rfl, by omega⟩).sI ⟨rfl, by omega⟩).sI ⟨rfl, by omega⟩
        refine key 4 0 _ (by omega) (f.mono (fun a i z => by omega)) ?_ ?_ ?_ (by rw [wrU_0]; exact X5.fz f (by intro a i z w; omega))
        · simp only [z_gI_sI]; simp
        · rw [← hL]; simp only [z_gI_sI]; simp
        · simp only [z_gI_sI]; simp
      by_cases c3 : q < fl.length - du
      · rw [if_pos c3] at fll
        have := fin (du + q) fll.symm
        simp (disch := omega) only [U152_0, U152_1, U152_2, U152_5, U152_6, U152_9, U152_10, U152_13, U152_16, U152_17, U152_20, U152_21, U152_24, U152_25, U152_28, U152_31, U152_32, U152_33, U152_34, U152_35, U152_36, U152_39, U152_40, U152_43, U152_44, U152_47, U152_48, U152_51, U152_52, U152_53, U152_56, U152_57, U152_60, U152_63, U152_64, U152_65, U152_68, U152_69, z_kd_sI, z_ln_sI, z_gI_sI, z_gJ_sI, z_gP_sI, z_nx_sI, z_rc_sI, z_rs_sI, z_em_sI, z_mi_sI, z_kd_sJ, z_ln_sJ, z_gI_sJ, z_gJ_sJ, z_gP_sJ, z_nx_sJ, z_rc_sJ, z_rs_sJ, z_em_sJ, z_mi_sJ, z_kd_sP, z_ln_sP, z_gI_sP, z_gJ_sP, z_gP_sP, z_nx_sP, z_rc_sP, z_rs_sP, z_em_sP, z_mi_sP, z_kd_nw, z_ln_nw, z_gI_nw, z_gJ_nw, z_gP_nw, z_nx_nw, z_rc_nw, z_rs_nw, z_em_nw, z_mi_nw, z_kd_cI, z_ln_cI, z_gI_cI, z_gJ_cI, z_gP_cI, z_nx_cI, z_rc_cI, z_rs_cI, z_em_cI, z_mi_cI, z_kd_cP, z_ln_cP, z_gI_cP, z_gJ_cP, z_gP_cP, z_nx_cP, z_rc_cP, z_rs_cP, z_em_cP, z_mi_cP, z_kd_wI, z_ln_wI, z_gI_wI, z_gJ_wI, z_gP_wI, z_nx_wI, z_rc_wI, z_rs_wI, z_em_wI, z_mi_wI, z_kd_wJ, z_ln_wJ, z_gI_wJ, z_gJ_wJ, z_gP_wJ, z_nx_wJ, z_rc_wJ, z_rs_wJ, z_em_wJ, z_mi_wJ, X0.1, d1, d5, d7', c3, show ¬ q < 0 by omega, show ¬ (0 : Nat) < 0 by omega, Nat.reduceEqDiff, i_add, i_mul, i_sub, i_addn, i_lt, i_eq, i_idx, i_vp, true_and, and_true, false_and, and_false, if_true, if_false, Nat.reduceAdd, Nat.reduceMul, Nat.reduceSub, Nat.reduceEqDiff, Option.some.injEq, exists_eq_left', true_or, or_true, false_or, or_false, not_true_eq_false, not_false_eq_true, eq_self, and_self, Nat.reduceLeDiff, decide_true, decide_false, ne_eq, Nat.left_eq_add, Nat.add_eq_left, Nat.add_left_cancel_iff, Nat.add_zero]
        exact this
      · rw [if_neg c3] at fll
        have := fin fl.length fll.symm
        simp (disch := omega) only [U152_0, U152_1, U152_2, U152_5, U152_6, U152_9, U152_10, U152_13, U152_16, U152_17, U152_20, U152_21, U152_24, U152_25, U152_28, U152_31, U152_32, U152_33, U152_34, U152_35, U152_36, U152_39, U152_40, U152_43, U152_44, U152_47, U152_48, U152_51, U152_52, U152_53, U152_56, U152_57, U152_60, U152_63, U152_64, U152_65, U152_68, U152_69, z_kd_sI, z_ln_sI, z_gI_sI, z_gJ_sI, z_gP_sI, z_nx_sI, z_rc_sI, z_rs_sI, z_em_sI, z_mi_sI, z_kd_sJ, z_ln_sJ, z_gI_sJ, z_gJ_sJ, z_gP_sJ, z_nx_sJ, z_rc_sJ, z_rs_sJ, z_em_sJ, z_mi_sJ, z_kd_sP, z_ln_sP, z_gI_sP, z_gJ_sP, z_gP_sP, z_nx_sP, z_rc_sP, z_rs_sP, z_em_sP, z_mi_sP, z_kd_nw, z_ln_nw, z_gI_nw, z_gJ_nw, z_gP_nw, z_nx_nw, z_rc_nw, z_rs_nw, z_em_nw, z_mi_nw, z_kd_cI, z_ln_cI, z_gI_cI, z_gJ_cI, z_gP_cI, z_nx_cI, z_rc_cI, z_rs_cI, z_em_cI, z_mi_cI, z_kd_cP, z_ln_cP, z_gI_cP, z_gJ_cP, z_gP_cP, z_nx_cP, z_rc_cP, z_rs_cP, z_em_cP, z_mi_cP, z_kd_wI, z_ln_wI, z_gI_wI, z_gJ_wI, z_gP_wI, z_nx_wI, z_rc_wI, z_rs_wI, z_em_wI, z_mi_wI, z_kd_wJ, z_ln_wJ, z_gI_wJ, z_gJ_wJ, z_gP_wJ, z_nx_wJ, z_rc_wJ, z_rs_wJ, z_em_wJ, z_mi_wJ, X0.1, d1, d5, d7', c3, show ¬ q < 0 by omega, show ¬ (0 : Nat) < 0 by omega, Nat.reduceEqDiff, i_add, i_mul, i_sub, i_addn, i_lt, i_eq, i_idx, i_vp, true_and, and_true, false_and, and_false, if_true, if_false, Nat.reduceAdd, Nat.reduceMul, Nat.reduceSub, Nat.reduceEqDiff, Option.some.injEq, exists_eq_left', true_or, or_true, false_or, or_false, not_true_eq_false, not_false_eq_true, eq_self, and_self, Nat.reduceLeDiff, decide_true, decide_false, ne_eq, Nat.left_eq_add, Nat.add_eq_left, Nat.add_left_cancel_iff, Nat.add_zero]
        exact this
end
