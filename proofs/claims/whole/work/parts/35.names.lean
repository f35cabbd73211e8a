/-! ===== Names ===== -/
def Nm (h : MH_) (n : Nat) (nm : Nat → List Nat) : Prop := (kd_ h n = 6 ∧ gP_ h n 0 = some (n + 1) ∧ gP_ h n 1 = some (n + 2) ∧ kd_ h (n + 1) = 31 ∧ ln_ h (n + 1) = 3072 ∧ kd_ h (n + 2) = 30 ∧ ln_ h (n + 2) = 256) ∧ ∀ q, q < 256 → (nm q).length ≤ 12 ∧ gI_ h (n + 2) q = Int32.ofNat (nm q).length ∧ (∀ k, k < (nm q).length → gI_ h (n + 1) (q * 12 + k) = b8 ((nm q).getD k 0)) ∧ ∀ b ∈ nm q, b < 256
def SN (n : Nat) : Nat → Nat → Prop := fun a _ => a = n + 1 ∨ a = n + 2
theorem Nm.fz {S : Nat → Nat → Prop} {h h' : MH_} {n : Nat} {nm : Nat → List Nat} (hn : Nm h n nm) (z : Fz S h h') (hs : ∀ a i, SN n a i → ¬ S a i) : Nm h' n nm := by
  obtain ⟨⟨a1, a2, a3, a4, a5, a6, a7⟩, b⟩ := hn
  refine ⟨⟨by rw [z.kd, a1], by rw [z.gP, a2], by rw [z.gP, a3], by rw [z.kd, a4], by rw [z.ln, a5], by rw [z.kd, a6], by rw [z.ln, a7]⟩, fun q hq => ?_⟩
  obtain ⟨b1, b2, b3, b4⟩ := b q hq
  exact ⟨b1, by rw [z.gI (hs _ _ (Or.inr rfl)), b2], fun k hk => by rw [z.gI (hs _ _ (Or.inl rfl)), b3 k hk], b4⟩
theorem Names_has {h : MH_} {t c : Nat} {Q : Rs_ → MH_ → Prop} (ht : t < 2147483648) (hc : c < 2147483648) : Wp 63 0 [.int (Int32.ofNat t), .int (Int32.ofNat c)] [] h Q ↔ Q (.inl (.int (bz (t < 8 ∧ c < 32)))) h := by
  simp (disch := omega) only [U63_0, U63_1, U63_4, U63_5, U63_7, U63_10, U63_11, U63_14, U63_15, U63_17, U63_20, U63_21, U63_24, U63_25, show ¬ t < 0 by omega, show ¬ c < 0 by omega, i_add, i_mul, i_sub, i_addn, i_lt, i_eq, i_idx, i_vp, true_and, and_true, false_and, and_false, if_true, if_false, Nat.reduceAdd, Nat.reduceMul, Nat.reduceSub, Nat.reduceEqDiff, Option.some.injEq, exists_eq_left', true_or, or_true, false_or, or_false, not_true_eq_false, not_false_eq_true, eq_self, and_self, Nat.reduceLeDiff, decide_true, decide_false, ne_eq, Nat.left_eq_add, Nat.add_eq_left, Nat.add_left_cancel_iff, Nat.add_zero]
  by_cases h1 : t < 8
  · by_cases h2 : c < 32
    · rw [if_pos h1, if_pos h2, bz_t (p := t < 8 ∧ c < 32) ⟨h1, h2⟩]
    · rw [if_pos h1, if_neg h2, bz_f (p := t < 8 ∧ c < 32) (fun z => h2 z.2)]
  · rw [if_neg h1, bz_f (p := t < 8 ∧ c < 32) (fun z => h1 z.1)]
theorem Names_has_n {h : MH_} {t c : Int32} {Q : Rs_ → MH_ → Prop} (hx : t < Int32.ofNat 0 ∨ c < Int32.ofNat 0) : Wp 63 0 [.int t, .int c] [] h Q ↔ Q (.inl (.int (Int32.ofNat 0))) h := by
  simp (disch := omega) only [U63_0, U63_1, U63_4, U63_5, U63_7, U63_10, U63_11, U63_14, U63_15, U63_17, U63_20, U63_21, U63_24, U63_25, i_add, i_mul, i_sub, i_addn, i_lt, i_eq, i_idx, i_vp, true_and, and_true, false_and, and_false, if_true, if_false, Nat.reduceAdd, Nat.reduceMul, Nat.reduceSub, Nat.reduceEqDiff, Option.some.injEq, exists_eq_left', true_or, or_true, false_or, or_false, not_true_eq_false, not_false_eq_true, eq_self, and_self, Nat.reduceLeDiff, decide_true, decide_false, ne_eq, Nat.left_eq_add, Nat.add_eq_left, Nat.add_left_cancel_iff, Nat.add_zero]
  by_cases h1 : t < Int32.ofNat 0
  · rw [if_pos h1]
  · rw [if_neg h1]
    by_cases h2 : t < Int32.ofNat 8
    · rw [if_pos h2, if_pos (hx.resolve_left h1)]
    · rw [if_neg h2]
theorem Names_give {h : MH_} {n t c r d : Nat} {nm : Nat → List Nat} {l : List Nat} (hn : Nm h n nm) (hr : Rw h r d l) (ht : t < 8) (hc : c < 32) (hl : l.length ≤ 12) (ap : r + 2 ≤ n ∨ n + 3 ≤ r) : Wp 62 0 [.ref n, .int (Int32.ofNat t), .int (Int32.ofNat c), .ref r, .null, .null] [] h (fun v h' => v = .inl .null ∧ Nm h' n (fun q => if q = t * 32 + c then l else nm q) ∧ Fz (SN n) h h') := by
  have hn' := hn
  obtain ⟨⟨a1, a2, a3, a4, a5, a6, a7⟩, b⟩ := hn
  have h5 := hr.2.2.2.2.1
  have key : ∀ j k u, k + j = l.length → Fz (SN n) h u → gI_ u (n + 2) (t * 32 + c) = Int32.ofNat l.length → (∀ q, ¬ q = t * 32 + c → gI_ u (n + 2) q = gI_ h (n + 2) q) → (∀ i, i < k → gI_ u (n + 1) ((t * 32 + c) * 12 + i) = b8 (l.getD i 0)) → (∀ i, i < (t * 32 + c) * 12 ∨ (t * 32 + c) * 12 + 12 ≤ i → gI_ u (n + 1) i = gI_ h (n + 1) i) →
      Wp 62 36 [.ref n, .int (Int32.ofNat t), .int (Int32.ofNat c), .ref r, .int (Int32.ofNat (t * 32 + c)), .int (Int32.ofNat k)] [] u (fun v h' => v = .inl .null ∧ Nm h' n (fun q => if q = t * 32 + c then l else nm q) ∧ Fz (SN n) h h') := by
    intro j
    induction j with
    | zero =>
      intro k u hk z u1 u2 u3 u4
      have g1 : kd_ u n = 6 := by rw [z.kd, a1]
      have g3 : gP_ u n 1 = some (n + 2) := by rw [z.gP, a3]
      have g6 : kd_ u (n + 2) = 30 := by rw [z.kd, a6]
      have g7 : ln_ u (n + 2) = 256 := by rw [z.ln, a7]
      rw [U62_36]
      simp (disch := omega) only [U62_0, U62_1, U62_2, U62_5, U62_8, U62_9, U62_10, U62_12, U62_13, U62_14, U62_15, U62_17, U62_18, U62_21, U62_23, U62_24, U62_27, U62_29, U62_32, U62_33, U62_34, U62_38, U62_39, U62_42, U62_44, U62_45, U62_48, U62_49, U62_52, U62_54, U62_56, U62_57, U62_59, U62_60, U62_61, U62_63, U62_66, U62_67, U62_68, U62_71, U62_74, g1, g3, g6, g7, u1, show t * 32 + c < 256 by omega, show ¬ k < l.length by omega, i_add, i_mul, i_sub, i_addn, i_lt, i_eq, i_idx, i_vp, true_and, and_true, false_and, and_false, if_true, if_false, Nat.reduceAdd, Nat.reduceMul, Nat.reduceSub, Nat.reduceEqDiff, Option.some.injEq, exists_eq_left', true_or, or_true, false_or, or_false, not_true_eq_false, not_false_eq_true, eq_self, and_self, Nat.reduceLeDiff, decide_true, decide_false, ne_eq, Nat.left_eq_add, Nat.add_eq_left, Nat.add_left_cancel_iff, Nat.add_zero]
      refine ⟨⟨⟨g1, by rw [z.gP, a2], g3, by rw [z.kd, a4], by rw [z.ln, a5], g6, g7⟩, fun q hq => ?_⟩, z⟩
      dsimp only
      by_cases h1 : q = t * 32 + c
      · subst h1
        rw [if_pos rfl]
        exact ⟨hl, u1, fun i hi => u3 i (by omega), hr.2.2.2.2.2.2.2.2⟩
      · rw [if_neg h1]
        obtain ⟨b1, b2, b3, b4⟩ := b q hq
        exact ⟨b1, by rw [u2 q h1, b2], fun i hi => by rw [u4 _ (by omega), b3 i hi], b4⟩
    | succ j ih =>
      intro k u hk z u1 u2 u3 u4
      have g1 : kd_ u n = 6 := by rw [z.kd, a1]
      have g2 : gP_ u n 0 = some (n + 1) := by rw [z.gP, a2]
      have g3 : gP_ u n 1 = some (n + 2) := by rw [z.gP, a3]
      have g4 : kd_ u (n + 1) = 31 := by rw [z.kd, a4]
      have g5 : ln_ u (n + 1) = 3072 := by rw [z.ln, a5]
      have g6 : kd_ u (n + 2) = 30 := by rw [z.kd, a6]
      have g7 : ln_ u (n + 2) = 256 := by rw [z.ln, a7]
      have hr1 : Rw u r d l := hr.fz z (by unfold SR SN; intro a i z1 z2; omega)
      rw [U62_36]
      simp (disch := omega) only [U62_0, U62_1, U62_2, U62_5, U62_8, U62_9, U62_10, U62_12, U62_13, U62_14, U62_15, U62_17, U62_18, U62_21, U62_23, U62_24, U62_27, U62_29, U62_32, U62_33, U62_34, U62_38, U62_39, U62_42, U62_44, U62_45, U62_48, U62_49, U62_52, U62_54, U62_56, U62_57, U62_59, U62_60, U62_61, U62_63, U62_66, U62_67, U62_68, U62_71, U62_74, Row_at hr1, V85, z_kd_sI, z_ln_sI, z_gI_sI, z_gJ_sI, z_gP_sI, z_nx_sI, z_rc_sI, z_rs_sI, z_em_sI, z_mi_sI, z_kd_sJ, z_ln_sJ, z_gI_sJ, z_gJ_sJ, z_gP_sJ, z_nx_sJ, z_rc_sJ, z_rs_sJ, z_em_sJ, z_mi_sJ, z_kd_sP, z_ln_sP, z_gI_sP, z_gJ_sP, z_gP_sP, z_nx_sP, z_rc_sP, z_rs_sP, z_em_sP, z_mi_sP, z_kd_nw, z_ln_nw, z_gI_nw, z_gJ_nw, z_gP_nw, z_nx_nw, z_rc_nw, z_rs_nw, z_em_nw, z_mi_nw, z_kd_cI, z_ln_cI, z_gI_cI, z_gJ_cI, z_gP_cI, z_nx_cI, z_rc_cI, z_rs_cI, z_em_cI, z_mi_cI, z_kd_cP, z_ln_cP, z_gI_cP, z_gJ_cP, z_gP_cP, z_nx_cP, z_rc_cP, z_rs_cP, z_em_cP, z_mi_cP, z_kd_wI, z_ln_wI, z_gI_wI, z_gJ_wI, z_gP_wI, z_nx_wI, z_rc_wI, z_rs_wI, z_em_wI, z_mi_wI, z_kd_wJ, z_ln_wJ, z_gI_wJ, z_gJ_wJ, z_gP_wJ, z_nx_wJ, z_rc_wJ, z_rs_wJ, z_em_wJ, z_mi_wJ, g1, g2, g3, g4, g5, g6, g7, u1, hr1.1, show t * 32 + c < 256 by omega, show k < l.length by omega, show (t * 32 + c) * 12 + k < 3072 by omega, Int8.toInt8_toInt32, i_add, i_mul, i_sub, i_addn, i_lt, i_eq, i_idx, i_vp, true_and, and_true, false_and, and_false, if_true, if_false, Nat.reduceAdd, Nat.reduceMul, Nat.reduceSub, Nat.reduceEqDiff, Option.some.injEq, exists_eq_left', true_or, or_true, false_or, or_false, not_true_eq_false, not_false_eq_true, eq_self, and_self, Nat.reduceLeDiff, decide_true, decide_false, ne_eq, Nat.left_eq_add, Nat.add_eq_left, Nat.add_left_cancel_iff, Nat.add_zero]
      rw [show (Int32.ofNat (l.getD k 0)).toInt8.toInt32 = b8 (l.getD k 0) from rfl]
      refine ih (k + 1) _ (by omega) (z.sI (Or.inl rfl)) ?_ (fun q hq => ?_) (fun i hi => ?_) (fun i hi => ?_)
      · rw [z_gI_sI, if_neg (by omega), u1]
      · rw [z_gI_sI, if_neg (by omega), u2 q hq]
      · rw [z_gI_sI]
        by_cases h1 : i = k
        · subst h1; rw [if_pos ⟨rfl, rfl⟩]
        · rw [if_neg (by omega), u3 i (by omega)]
      · rw [z_gI_sI, if_neg (by omega), u4 i hi]
  have hr' := hr
  simp (disch := omega) only [U62_0, U62_1, U62_2, U62_5, U62_8, U62_9, U62_10, U62_12, U62_13, U62_14, U62_15, U62_17, U62_18, U62_21, U62_23, U62_24, U62_27, U62_29, U62_32, U62_33, U62_34, U62_38, U62_39, U62_42, U62_44, U62_45, U62_48, U62_49, U62_52, U62_54, U62_56, U62_57, U62_59, U62_60, U62_61, U62_63, U62_66, U62_67, U62_68, U62_71, U62_74, Names_has, V63, Row_held hr', V89, Math_min, V227, Nat.min_eq_left hl, bz_0, hr'.1, z_kd_sI, z_ln_sI, z_gI_sI, z_gJ_sI, z_gP_sI, z_nx_sI, z_rc_sI, z_rs_sI, z_em_sI, z_mi_sI, z_kd_sJ, z_ln_sJ, z_gI_sJ, z_gJ_sJ, z_gP_sJ, z_nx_sJ, z_rc_sJ, z_rs_sJ, z_em_sJ, z_mi_sJ, z_kd_sP, z_ln_sP, z_gI_sP, z_gJ_sP, z_gP_sP, z_nx_sP, z_rc_sP, z_rs_sP, z_em_sP, z_mi_sP, z_kd_nw, z_ln_nw, z_gI_nw, z_gJ_nw, z_gP_nw, z_nx_nw, z_rc_nw, z_rs_nw, z_em_nw, z_mi_nw, z_kd_cI, z_ln_cI, z_gI_cI, z_gJ_cI, z_gP_cI, z_nx_cI, z_rc_cI, z_rs_cI, z_em_cI, z_mi_cI, z_kd_cP, z_ln_cP, z_gI_cP, z_gJ_cP, z_gP_cP, z_nx_cP, z_rc_cP, z_rs_cP, z_em_cP, z_mi_cP, z_kd_wI, z_ln_wI, z_gI_wI, z_gJ_wI, z_gP_wI, z_nx_wI, z_rc_wI, z_rs_wI, z_em_wI, z_mi_wI, z_kd_wJ, z_ln_wJ, z_gI_wJ, z_gJ_wJ, z_gP_wJ, z_nx_wJ, z_rc_wJ, z_rs_wJ, z_em_wJ, z_mi_wJ, a1, a3, a6, a7, ht, hc, show t * 32 + c < 256 by omega, i_add, i_mul, i_sub, i_addn, i_lt, i_eq, i_idx, i_vp, true_and, and_true, false_and, and_false, if_true, if_false, Nat.reduceAdd, Nat.reduceMul, Nat.reduceSub, Nat.reduceEqDiff, Option.some.injEq, exists_eq_left', true_or, or_true, false_or, or_false, not_true_eq_false, not_false_eq_true, eq_self, and_self, Nat.reduceLeDiff, decide_true, decide_false, ne_eq, Nat.left_eq_add, Nat.add_eq_left, Nat.add_left_cancel_iff, Nat.add_zero]
  refine key l.length 0 _ (by omega) (Fz.rfl'.sI (Or.inr rfl)) ?_ (fun q hq => ?_) (fun i hi => absurd hi (Nat.not_lt_zero _)) (fun i hi => ?_)
  · rw [z_gI_sI, if_pos ⟨rfl, rfl⟩]
  · rw [z_gI_sI, if_neg (fun y => hq y.2)]
  · rw [z_gI_sI, if_neg (by omega)]
theorem Names_putInto {h : MH_} {n t c r d : Nat} {nm : Nat → List Nat} {l : List Nat} (hn : Nm h n nm) (hr : Rw h r d l) (ht : t < 8) (hc : c < 32) (hl : l.length + 12 ≤ d) (ap : r + 2 ≤ n ∨ n + 3 ≤ r) : Wp 64 0 [.ref n, .ref r, .int (Int32.ofNat t), .int (Int32.ofNat c), .null, .null] [] h (fun v h' => v = .inl (.int (bz (¬ nm (t * 32 + c) = []))) ∧ Rw h' r d (l ++ nm (t * 32 + c)) ∧ Fz (SR r) h h') := by
  have hq : t * 32 + c < 256 := by omega
  have key : ∀ j k u l, k + j = (nm (t * 32 + c)).length → Nm u n nm → Rw u r d l → l.length + j ≤ d → Wp 64 21 [.ref n, .ref r, .int (Int32.ofNat t), .int (Int32.ofNat c), .int (Int32.ofNat (t * 32 + c)), .int (Int32.ofNat k)] [] u (fun v h' => v = .inl (.int (bz (¬ nm (t * 32 + c) = []))) ∧ Rw h' r d (l ++ (nm (t * 32 + c)).drop k) ∧ Fz (SR r) u h') := by
    intro j
    induction j with
    | zero =>
      intro k u l hk hn hr hl
      obtain ⟨⟨a1, a2, a3, a4, a5, a6, a7⟩, b⟩ := hn
      obtain ⟨b1, b2, b3, b4⟩ := b _ hq
      rw [U64_21]
      simp (disch := omega) only [U64_0, U64_1, U64_2, U64_5, U64_8, U64_9, U64_10, U64_11, U64_13, U64_14, U64_15, U64_16, U64_18, U64_19, U64_23, U64_24, U64_27, U64_29, U64_30, U64_33, U64_34, U64_35, U64_38, U64_40, U64_42, U64_43, U64_45, U64_46, U64_47, U64_50, U64_53, U64_56, U64_57, U64_60, U64_62, U64_63, U64_66, U64_67, U64_70, U64_71, a1, a2, a3, a4, a5, a6, a7, b2, hq, show ¬ k < (nm (t * 32 + c)).length by omega, i_add, i_mul, i_sub, i_addn, i_lt, i_eq, i_idx, i_vp, true_and, and_true, false_and, and_false, if_true, if_false, Nat.reduceAdd, Nat.reduceMul, Nat.reduceSub, Nat.reduceEqDiff, Option.some.injEq, exists_eq_left', true_or, or_true, false_or, or_false, not_true_eq_false, not_false_eq_true, eq_self, and_self, Nat.reduceLeDiff, decide_true, decide_false, ne_eq, Nat.left_eq_add, Nat.add_eq_left, Nat.add_left_cancel_iff, Nat.add_zero]
      rw [List.drop_of_length_le (by omega), List.append_nil]
      by_cases h1 : 0 < (nm (t * 32 + c)).length
      · rw [if_pos h1, ← bz_t (p := ¬ nm (t * 32 + c) = []) (fun z => by rw [z] at h1; exact absurd h1 (by decide))]
        exact ⟨rfl, hr, Fz.rfl'⟩
      · rw [if_neg h1, ← bz_f (p := ¬ nm (t * 32 + c) = []) (fun z => z (List.eq_nil_of_length_eq_zero (by omega)))]
        exact ⟨rfl, hr, Fz.rfl'⟩
    | succ j ih =>
      intro k u l hk hn hr hl
      have hn' := hn
      obtain ⟨⟨a1, a2, a3, a4, a5, a6, a7⟩, b⟩ := hn
      obtain ⟨b1, b2, b3, b4⟩ := b _ hq
      rw [U64_21]
      simp (disch := omega) only [U64_0, U64_1, U64_2, U64_5, U64_8, U64_9, U64_10, U64_11, U64_13, U64_14, U64_15, U64_16, U64_18, U64_19, U64_23, U64_24, U64_27, U64_29, U64_30, U64_33, U64_34, U64_35, U64_38, U64_40, U64_42, U64_43, U64_45, U64_46, U64_47, U64_50, U64_53, U64_56, U64_57, U64_60, U64_62, U64_63, U64_66, U64_67, U64_70, U64_71, a1, a2, a3, a4, a5, a6, a7, b2, hr.1, hq, show k < (nm (t * 32 + c)).length by omega, show (t * 32 + c) * 12 + k < 3072 by omega, b3 k (by omega), i_add, i_mul, i_sub, i_addn, i_lt, i_eq, i_idx, i_vp, true_and, and_true, false_and, and_false, if_true, if_false, Nat.reduceAdd, Nat.reduceMul, Nat.reduceSub, Nat.reduceEqDiff, Option.some.injEq, exists_eq_left', true_or, or_true, false_or, or_false, not_true_eq_false, not_false_eq_true, eq_self, and_self, Nat.reduceLeDiff, decide_true, decide_false, ne_eq, Nat.left_eq_add, Nat.add_eq_left, Nat.add_left_cancel_iff, Nat.add_zero]
      refine Wp_use (Row_put hr (by omega)) ?_
      rintro _ h1 ⟨rfl, hr1, f1⟩
      simp (disch := omega) only [V93, U64_0, U64_1, U64_2, U64_5, U64_8, U64_9, U64_10, U64_11, U64_13, U64_14, U64_15, U64_16, U64_18, U64_19, U64_23, U64_24, U64_27, U64_29, U64_30, U64_33, U64_34, U64_35, U64_38, U64_40, U64_42, U64_43, U64_45, U64_46, U64_47, U64_50, U64_53, U64_56, U64_57, U64_60, U64_62, U64_63, U64_66, U64_67, U64_70, U64_71, i_add, i_mul, i_sub, i_addn, i_lt, i_eq, i_idx, i_vp, true_and, and_true, false_and, and_false, if_true, if_false, Nat.reduceAdd, Nat.reduceMul, Nat.reduceSub, Nat.reduceEqDiff, Option.some.injEq, exists_eq_left', true_or, or_true, false_or, or_false, not_true_eq_false, not_false_eq_true, eq_self, and_self, Nat.reduceLeDiff, decide_true, decide_false, ne_eq, Nat.left_eq_add, Nat.add_eq_left, Nat.add_left_cancel_iff, Nat.add_zero]
      refine Wp_use (ih (k + 1) h1 _ (by omega) (hn'.fz f1 (by unfold SR SN; intro a i z1 z2; omega)) hr1 (by rw [List.length_append, List.length_singleton]; omega)) ?_
      rintro _ h2 ⟨rfl, hr2, f2⟩
      rw [List.append_assoc, List.singleton_append, lo8_b8' (gD_lt b4 k), ← gD_drop (by omega)] at hr2
      exact ⟨rfl, hr2, f1.trans f2⟩
  have b1 := (hn.2 _ hq).1
  simp (disch := omega) only [U64_0, U64_1, U64_2, U64_5, U64_8, U64_9, U64_10, U64_11, U64_13, U64_14, U64_15, U64_16, U64_18, U64_19, U64_23, U64_24, U64_27, U64_29, U64_30, U64_33, U64_34, U64_35, U64_38, U64_40, U64_42, U64_43, U64_45, U64_46, U64_47, U64_50, U64_53, U64_56, U64_57, U64_60, U64_62, U64_63, U64_66, U64_67, U64_70, U64_71, Names_has, V63, bz_0, ht, hc, i_add, i_mul, i_sub, i_addn, i_lt, i_eq, i_idx, i_vp, true_and, and_true, false_and, and_false, if_true, if_false, Nat.reduceAdd, Nat.reduceMul, Nat.reduceSub, Nat.reduceEqDiff, Option.some.injEq, exists_eq_left', true_or, or_true, false_or, or_false, not_true_eq_false, not_false_eq_true, eq_self, and_self, Nat.reduceLeDiff, decide_true, decide_false, ne_eq, Nat.left_eq_add, Nat.add_eq_left, Nat.add_left_cancel_iff, Nat.add_zero]
  exact key (nm (t * 32 + c)).length 0 h l (by omega) hn hr (by omega)
theorem Names_putInto_n {h : MH_} {n t r : Nat} {x : Int32} {Q : Rs_ → MH_ → Prop} (ht : t < 8) (hx : x < Int32.ofNat 0 ∨ ∃ c, x = Int32.ofNat c ∧ c < 2147483648 ∧ 32 ≤ c) : Wp 64 0 [.ref n, .ref r, .int (Int32.ofNat t), .int x, .null, .null] [] h Q ↔ Q (.inl (.int (Int32.ofNat 0))) h := by
  rcases hx with hx | ⟨c, rfl, hc, h32⟩
  · simp (disch := omega) only [U64_0, U64_1, U64_2, U64_5, U64_8, U64_9, U64_10, U64_11, U64_13, U64_14, U64_15, U64_16, U64_18, U64_19, U64_23, U64_24, U64_27, U64_29, U64_30, U64_33, U64_34, U64_35, U64_38, U64_40, U64_42, U64_43, U64_45, U64_46, U64_47, U64_50, U64_53, U64_56, U64_57, U64_60, U64_62, U64_63, U64_66, U64_67, U64_70, U64_71, Names_has_n (Or.inr hx), V63, i_add, i_mul, i_sub, i_addn, i_lt, i_eq, i_idx, i_vp, true_and, and_true, false_and, and_false, if_true, if_false, Nat.reduceAdd, Nat.reduceMul, Nat.reduceSub, Nat.reduceEqDiff, Option.some.injEq, exists_eq_left', true_or, or_true, false_or, or_false, not_true_eq_false, not_false_eq_true, eq_self, and_self, Nat.reduceLeDiff, decide_true, decide_false, ne_eq, Nat.left_eq_add, Nat.add_eq_left, Nat.add_left_cancel_iff, Nat.add_zero]
  · simp (disch := omega) only [U64_0, U64_1, U64_2, U64_5, U64_8, U64_9, U64_10, U64_11, U64_13, U64_14, U64_15, U64_16, U64_18, U64_19, U64_23, U64_24, U64_27, U64_29, U64_30, U64_33, U64_34, U64_35, U64_38, U64_40, U64_42, U64_43, U64_45, U64_46, U64_47, U64_50, U64_53, U64_56, U64_57, U64_60, U64_62, U64_63, U64_66, U64_67, U64_70, U64_71, Names_has, V63, bz_0, show ¬ c < 32 by omega, i_add, i_mul, i_sub, i_addn, i_lt, i_eq, i_idx, i_vp, true_and, and_true, false_and, and_false, if_true, if_false, Nat.reduceAdd, Nat.reduceMul, Nat.reduceSub, Nat.reduceEqDiff, Option.some.injEq, exists_eq_left', true_or, or_true, false_or, or_false, not_true_eq_false, not_false_eq_true, eq_self, and_self, Nat.reduceLeDiff, decide_true, decide_false, ne_eq, Nat.left_eq_add, Nat.add_eq_left, Nat.add_left_cancel_iff, Nat.add_zero]
