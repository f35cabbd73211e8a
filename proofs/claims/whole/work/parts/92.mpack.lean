/-! ===== the model: fitArgs, pack, packVar, numberBefore ===== -/
section
variable {h h' : MH_} {m s : Nat} {S : Nat → Nat → Prop} {si : List (List Tok)} {ts : List Tok} {ar : List Arg} {Q : Rs_ → MH_ → Prop}
theorem isN_at {as : List Arg} {k : Nat} (hk : k < as.length) : isN as k = true ↔ ∃ y, as[k]? = some (.inl y) := by
  unfold isN
  cases hg : as[k]? with
  | none => rw [List.getElem?_eq_getElem hk] at hg; cases hg
  | some g => cases g with
    | inl y => exact ⟨fun _ => ⟨y, rfl⟩, fun _ => rfl⟩
    | inr t => exact ⟨fun z => (by cases z), fun ⟨y, z⟩ => (by cases z)⟩
theorem M_fitArgs (X0 : MS h m) (X2 : MF h m si) (X4 : MA h m ar) (hs : si[s]? = some ts) : Wp 157 0 [.ref m, .int (Int32.ofNat s), .null, .null] [] h Q ↔ Q (.inl (.int (bz (fit ts ar = true)))) h := by
  obtain ⟨a1, a2, a3, a4, a5⟩ := X2.2.2 s ts hs
  have hs40 := (si_lt X2 hs).1
  have h6 := X4.2.1
  have fin1 : ∀ j, fit ts ar = true → (Wp 157 67 [.ref m, .int (Int32.ofNat s), .int (Int32.ofNat 1), .int (Int32.ofNat j)] [] h Q ↔ Q (.inl (.int (bz (fit ts ar = true)))) h) := by
    intro j z
    rw [← bz_t z]
    simp (disch := omega) only [U157_0, U157_1, U157_4, U157_5, U157_6, U157_9, U157_12, U157_13, U157_16, U157_17, U157_18, U157_19, U157_21, U157_24, U157_25, U157_26, U157_29, U157_32, U157_33, U157_34, U157_35, U157_38, U157_39, U157_42, U157_43, U157_44, U157_47, U157_48, U157_51, U157_52, U157_55, U157_56, U157_59, U157_60, U157_61, U157_64, U157_67, U157_68, i_add, i_mul, i_sub, i_addn, i_lt, i_eq, i_idx, i_vp, true_and, and_true, false_and, and_false, if_true, if_false, Nat.reduceAdd, Nat.reduceMul, Nat.reduceSub, Nat.reduceEqDiff, Option.some.injEq, exists_eq_left', true_or, or_true, false_or, or_false, not_true_eq_false, not_false_eq_true, eq_self, and_self, Nat.reduceLeDiff, decide_true, decide_false, ne_eq, Nat.left_eq_add, Nat.add_eq_left, Nat.add_left_cancel_iff, Nat.add_zero]
  have fin0 : ∀ j, ¬ fit ts ar = true → (Wp 157 67 [.ref m, .int (Int32.ofNat s), .int (Int32.ofNat 0), .int (Int32.ofNat j)] [] h Q ↔ Q (.inl (.int (bz (fit ts ar = true)))) h) := by
    intro j z
    rw [← bz_f z]
    simp (disch := omega) only [U157_0, U157_1, U157_4, U157_5, U157_6, U157_9, U157_12, U157_13, U157_16, U157_17, U157_18, U157_19, U157_21, U157_24, U157_25, U157_26, U157_29, U157_32, U157_33, U157_34, U157_35, U157_38, U157_39, U157_42, U157_43, U157_44, U157_47, U157_48, U157_51, U157_52, U157_55, U157_56, U157_59, U157_60, U157_61, U157_64, U157_67, U157_68, i_add, i_mul, i_sub, i_addn, i_lt, i_eq, i_idx, i_vp, true_and, and_true, false_and, and_false, if_true, if_false, Nat.reduceAdd, Nat.reduceMul, Nat.reduceSub, Nat.reduceEqDiff, Option.some.injEq, exists_eq_left', true_or, or_true, false_or, or_false, not_true_eq_false, not_false_eq_true, eq_self, and_self, Nat.reduceLeDiff, decide_true, decide_false, ne_eq, Nat.left_eq_add, Nat.add_eq_left, Nat.add_left_cancel_iff, Nat.add_zero]
  have key : ∀ n j b, j + n = ar.length → (b = 0 ∨ b = 1) → (b = 1 → ar.length = (slts ts).length ∧ ∀ i, i < j → (isN ar i = true ↔ ¬ kdS ts i = 116)) → (b = 0 → ¬ fit ts ar = true) → (Wp 157 20 [.ref m, .int (Int32.ofNat s), .int (Int32.ofNat b), .int (Int32.ofNat j)] [] h Q ↔ Q (.inl (.int (bz (fit ts ar = true)))) h) := by
    intro n
    induction n with
    | zero =>
      intro j b hj hb h1 h0
      rw [U157_20]
      rcases hb with rfl | rfl
      · simp (disch := omega) only [U157_21, U157_24, U157_25, U157_26, U157_29, U157_32, U157_33, U157_34, U157_35, U157_38, U157_39, U157_42, U157_43, U157_44, U157_47, U157_48, U157_51, U157_52, U157_55, U157_56, U157_59, U157_60, U157_61, U157_64, i_add, i_mul, i_sub, i_addn, i_lt, i_eq, i_idx, i_vp, true_and, and_true, false_and, and_false, if_true, if_false, Nat.reduceAdd, Nat.reduceMul, Nat.reduceSub, Nat.reduceEqDiff, Option.some.injEq, exists_eq_left', true_or, or_true, false_or, or_false, not_true_eq_false, not_false_eq_true, eq_self, and_self, Nat.reduceLeDiff, decide_true, decide_false, ne_eq, Nat.left_eq_add, Nat.add_eq_left, Nat.add_left_cancel_iff, Nat.add_zero]
        exact fin0 j (h0 rfl)
      · obtain ⟨l1, l2⟩ := h1 rfl
        simp (disch := omega) only [U157_21, U157_24, U157_25, U157_26, U157_29, U157_32, U157_33, U157_34, U157_35, U157_38, U157_39, U157_42, U157_43, U157_44, U157_47, U157_48, U157_51, U157_52, U157_55, U157_56, U157_59, U157_60, U157_61, U157_64, X0.1, X4.1, show ¬ j < ar.length by omega, show ¬ (1 : Nat) = 0 by omega, i_add, i_mul, i_sub, i_addn, i_lt, i_eq, i_idx, i_vp, true_and, and_true, false_and, and_false, if_true, if_false, Nat.reduceAdd, Nat.reduceMul, Nat.reduceSub, Nat.reduceEqDiff, Option.some.injEq, exists_eq_left', true_or, or_true, false_or, or_false, not_true_eq_false, not_false_eq_true, eq_self, and_self, Nat.reduceLeDiff, decide_true, decide_false, ne_eq, Nat.left_eq_add, Nat.add_eq_left, Nat.add_left_cancel_iff, Nat.add_zero]
        refine fin1 j ?_
        unfold fit
        rw [Bool.and_eq_true, decide_eq_true_iff, decide_eq_true_iff]
        exact ⟨l1, fun k hk => l2 k (by omega)⟩
    | succ n ih =>
      intro j b hj hb h1 h0
      rw [U157_20]
      rcases hb with rfl | rfl
      · simp (disch := omega) only [U157_21, U157_24, U157_25, U157_26, U157_29, U157_32, U157_33, U157_34, U157_35, U157_38, U157_39, U157_42, U157_43, U157_44, U157_47, U157_48, U157_51, U157_52, U157_55, U157_56, U157_59, U157_60, U157_61, U157_64, i_add, i_mul, i_sub, i_addn, i_lt, i_eq, i_idx, i_vp, true_and, and_true, false_and, and_false, if_true, if_false, Nat.reduceAdd, Nat.reduceMul, Nat.reduceSub, Nat.reduceEqDiff, Option.some.injEq, exists_eq_left', true_or, or_true, false_or, or_false, not_true_eq_false, not_false_eq_true, eq_self, and_self, Nat.reduceLeDiff, decide_true, decide_false, ne_eq, Nat.left_eq_add, Nat.add_eq_left, Nat.add_left_cancel_iff, Nat.add_zero]
        exact fin0 j (h0 rfl)
      · obtain ⟨l1, l2⟩ := h1 rfl
        have hja : j < ar.length := by omega
        have go1 := ih (j + 1) 1 (by omega) (Or.inr rfl)
        have go0 := ih (j + 1) 0 (by omega) (Or.inl rfl) (fun z => by omega)
        have mc := X4.2.2 j ar[j] (List.getElem?_eq_getElem hja)
        have hN := isN_at hja
        have all : ∀ (q : isN ar j = true ↔ ¬ kdS ts j = 116), ∀ i, i < j + 1 → (isN ar i = true ↔ ¬ kdS ts i = 116) := by
          intro q i hi
          by_cases hij : i = j
          · rw [hij]; exact q
          · exact l2 i (by omega)
        have bad : ¬ (isN ar j = true ↔ ¬ kdS ts j = 116) → ¬ fit ts ar = true := by
          intro q z
          exact q (fit_at z (by omega))
        cases hg : ar[j] with
        | inl y =>
          rw [hg] at mc
          have n1 : isN ar j = true := hN.mpr ⟨y, by rw [List.getElem?_eq_getElem hja, hg]⟩
          by_cases h116 : kdS ts j = 116
          · simp (disch := omega) only [U157_21, U157_24, U157_25, U157_26, U157_29, U157_32, U157_33, U157_34, U157_35, U157_38, U157_39, U157_42, U157_43, U157_44, U157_47, U157_48, U157_51, U157_52, U157_55, U157_56, U157_59, U157_60, U157_61, U157_64, X0.1, X4.1, mp9 X0, mk6 X0, mn6 X0, M_isTextSlot X0 X2 hs, V167, mc.1, hja, h116, bz, show -(Int32.ofNat 1) < Int32.ofNat 0 by decide, show j < 6 by omega, show ¬ (1 : Nat) = 0 by omega, i_add, i_mul, i_sub, i_addn, i_lt, i_eq, i_idx, i_vp, true_and, and_true, false_and, and_false, if_true, if_false, Nat.reduceAdd, Nat.reduceMul, Nat.reduceSub, Nat.reduceEqDiff, Option.some.injEq, exists_eq_left', true_or, or_true, false_or, or_false, not_true_eq_false, not_false_eq_true, eq_self, and_self, Nat.reduceLeDiff, decide_true, decide_false, ne_eq, Nat.left_eq_add, Nat.add_eq_left, Nat.add_left_cancel_iff, Nat.add_zero]
            exact go0 (fun _ => bad (fun q => (q.mp n1) h116))
          · simp (disch := omega) only [U157_21, U157_24, U157_25, U157_26, U157_29, U157_32, U157_33, U157_34, U157_35, U157_38, U157_39, U157_42, U157_43, U157_44, U157_47, U157_48, U157_51, U157_52, U157_55, U157_56, U157_59, U157_60, U157_61, U157_64, X0.1, X4.1, mp9 X0, mk6 X0, mn6 X0, M_isTextSlot X0 X2 hs, V167, mc.1, hja, h116, bz, show -(Int32.ofNat 1) < Int32.ofNat 0 by decide, show j < 6 by omega, show ¬ (1 : Nat) = 0 by omega, i_add, i_mul, i_sub, i_addn, i_lt, i_eq, i_idx, i_vp, true_and, and_true, false_and, and_false, if_true, if_false, Nat.reduceAdd, Nat.reduceMul, Nat.reduceSub, Nat.reduceEqDiff, Option.some.injEq, exists_eq_left', true_or, or_true, false_or, or_false, not_true_eq_false, not_false_eq_true, eq_self, and_self, Nat.reduceLeDiff, decide_true, decide_false, ne_eq, Nat.left_eq_add, Nat.add_eq_left, Nat.add_left_cancel_iff, Nat.add_zero]
            exact go1 (fun _ => ⟨l1, all ⟨fun _ => h116, fun _ => n1⟩⟩) (fun z => by omega)
        | inr t =>
          rw [hg] at mc
          have n1 : ¬ isN ar j = true := fun z => by
            obtain ⟨y, hy⟩ := hN.mp z
            rw [List.getElem?_eq_getElem hja, hg] at hy
            cases hy
          have t16 := mc.2.1
          by_cases h116 : kdS ts j = 116
          · simp (disch := omega) only [U157_21, U157_24, U157_25, U157_26, U157_29, U157_32, U157_33, U157_34, U157_35, U157_38, U157_39, U157_42, U157_43, U157_44, U157_47, U157_48, U157_51, U157_52, U157_55, U157_56, U157_59, U157_60, U157_61, U157_64, X0.1, X4.1, mp9 X0, mk6 X0, mn6 X0, M_isTextSlot X0 X2 hs, V167, mc.1, hja, h116, bz, show ¬ t.length < 0 by omega, show j < 6 by omega, show ¬ (1 : Nat) = 0 by omega, i_add, i_mul, i_sub, i_addn, i_lt, i_eq, i_idx, i_vp, true_and, and_true, false_and, and_false, if_true, if_false, Nat.reduceAdd, Nat.reduceMul, Nat.reduceSub, Nat.reduceEqDiff, Option.some.injEq, exists_eq_left', true_or, or_true, false_or, or_false, not_true_eq_false, not_false_eq_true, eq_self, and_self, Nat.reduceLeDiff, decide_true, decide_false, ne_eq, Nat.left_eq_add, Nat.add_eq_left, Nat.add_left_cancel_iff, Nat.add_zero]
            exact go1 (fun _ => ⟨l1, all ⟨fun z => absurd z n1, fun z => absurd h116 z⟩⟩) (fun z => by omega)
          · simp (disch := omega) only [U157_21, U157_24, U157_25, U157_26, U157_29, U157_32, U157_33, U157_34, U157_35, U157_38, U157_39, U157_42, U157_43, U157_44, U157_47, U157_48, U157_51, U157_52, U157_55, U157_56, U157_59, U157_60, U157_61, U157_64, X0.1, X4.1, mp9 X0, mk6 X0, mn6 X0, M_isTextSlot X0 X2 hs, V167, mc.1, hja, h116, bz, show ¬ t.length < 0 by omega, show j < 6 by omega, show ¬ (0 : Nat) = 1 by omega, show ¬ (1 : Nat) = 0 by omega, i_add, i_mul, i_sub, i_addn, i_lt, i_eq, i_idx, i_vp, true_and, and_true, false_and, and_false, if_true, if_false, Nat.reduceAdd, Nat.reduceMul, Nat.reduceSub, Nat.reduceEqDiff, Option.some.injEq, exists_eq_left', true_or, or_true, false_or, or_false, not_true_eq_false, not_false_eq_true, eq_self, and_self, Nat.reduceLeDiff, decide_true, decide_false, ne_eq, Nat.left_eq_add, Nat.add_eq_left, Nat.add_left_cancel_iff, Nat.add_zero]
            exact go0 (fun _ => bad (fun q => n1 (q.mpr h116)))
  by_cases hl : ar.length = (slts ts).length
  · have k1 := key ar.length 0 1 (by omega) (Or.inr rfl) (fun _ => ⟨hl, fun i hi => absurd hi (Nat.not_lt_zero _)⟩) (fun z => by omega)
    simp (disch := omega) only [U157_0, U157_1, U157_4, U157_5, U157_6, U157_9, U157_12, U157_13, U157_16, U157_17, U157_18, U157_19, X0.1, X4.1, M_slotCount X0 X2 hs, V198, hl, i_add, i_mul, i_sub, i_addn, i_lt, i_eq, i_idx, i_vp, true_and, and_true, false_and, and_false, if_true, if_false, Nat.reduceAdd, Nat.reduceMul, Nat.reduceSub, Nat.reduceEqDiff, Option.some.injEq, exists_eq_left', true_or, or_true, false_or, or_false, not_true_eq_false, not_false_eq_true, eq_self, and_self, Nat.reduceLeDiff, decide_true, decide_false, ne_eq, Nat.left_eq_add, Nat.add_eq_left, Nat.add_left_cancel_iff, Nat.add_zero]
    exact k1
  · have k0 := key ar.length 0 0 (by omega) (Or.inl rfl) (fun z => by omega) (fun _ z => hl (fit_len z))
    simp (disch := omega) only [U157_0, U157_1, U157_4, U157_5, U157_6, U157_9, U157_12, U157_13, U157_16, U157_17, U157_18, U157_19, X0.1, X4.1, M_slotCount X0 X2 hs, V198, hl, i_add, i_mul, i_sub, i_addn, i_lt, i_eq, i_idx, i_vp, true_and, and_true, false_and, and_false, if_true, if_false, Nat.reduceAdd, Nat.reduceMul, Nat.reduceSub, Nat.reduceEqDiff, Option.some.injEq, exists_eq_left', true_or, or_true, false_or, or_false, not_true_eq_false, not_false_eq_true, eq_self, and_self, Nat.reduceLeDiff, decide_true, decide_false, ne_eq, Nat.left_eq_add, Nat.add_eq_left, Nat.add_left_cancel_iff, Nat.add_zero]
    exact k0
/-- the row into which events are packed -/
def Mk (h : MH_) (m : Nat) (l : List Nat) : Prop := gI_ h m 20 = Int32.ofNat l.length ∧ ∀ i, i < l.length → gI_ h (m + 17) i = Int32.ofNat (l.getD i 0)
def SK (m : Nat) : Nat → Nat → Prop := fun a i => (a = m ∧ i = 20) ∨ a = m + 17
theorem M_pack {b : Int32} {l : List Nat} (X0 : MS h m) (K : Mk h m l) (hl : l.length < 400) : Wp 177 0 [.ref m, .int b] [] h (fun v h' => v = .inl .null ∧ Mk h' m (l ++ [lo8 b]) ∧ Fz (SK m) h h') := by
  simp (disch := omega) only [U177_0, U177_1, U177_4, U177_5, U177_8, U177_9, U177_12, U177_13, U177_14, U177_15, U177_16, U177_19, U177_20, U177_21, U177_24, z_kd_sI, z_ln_sI, z_gI_sI, z_gJ_sI, z_gP_sI, z_nx_sI, z_rc_sI, z_rs_sI, z_em_sI, z_mi_sI, z_kd_sJ, z_ln_sJ, z_gI_sJ, z_gJ_sJ, z_gP_sJ, z_nx_sJ, z_rc_sJ, z_rs_sJ, z_em_sJ, z_mi_sJ, z_kd_sP, z_ln_sP, z_gI_sP, z_gJ_sP, z_gP_sP, z_nx_sP, z_rc_sP, z_rs_sP, z_em_sP, z_mi_sP, z_kd_nw, z_ln_nw, z_gI_nw, z_gJ_nw, z_gP_nw, z_nx_nw, z_rc_nw, z_rs_nw, z_em_nw, z_mi_nw, z_kd_cI, z_ln_cI, z_gI_cI, z_gJ_cI, z_gP_cI, z_nx_cI, z_rc_cI, z_rs_cI, z_em_cI, z_mi_cI, z_kd_cP, z_ln_cP, z_gI_cP, z_gJ_cP, z_gP_cP, z_nx_cP, z_rc_cP, z_rs_cP, z_em_cP, z_mi_cP, z_kd_wI, z_ln_wI, z_gI_wI, z_gJ_wI, z_gP_wI, z_nx_wI, z_rc_wI, z_rs_wI, z_em_wI, z_mi_wI, z_kd_wJ, z_ln_wJ, z_gI_wJ, z_gJ_wJ, z_gP_wJ, z_nx_wJ, z_rc_wJ, z_rs_wJ, z_em_wJ, z_mi_wJ, X0.1, K.1, mp21 X0, mk17 X0, mn17 X0, hl, (lo8_b8 b).2.2, i_add, i_mul, i_sub, i_addn, i_lt, i_eq, i_idx, i_vp, true_and, and_true, false_and, and_false, if_true, if_false, Nat.reduceAdd, Nat.reduceMul, Nat.reduceSub, Nat.reduceEqDiff, Option.some.injEq, exists_eq_left', true_or, or_true, false_or, or_false, not_true_eq_false, not_false_eq_true, eq_self, and_self, Nat.reduceLeDiff, decide_true, decide_false, ne_eq, Nat.left_eq_add, Nat.add_eq_left, Nat.add_left_cancel_iff, Nat.add_zero]
  refine ⟨⟨by rw [z_gI_sI, if_pos ⟨rfl, rfl⟩, List.length_append]; rfl, fun i hi => ?_⟩, (Fz.rfl'.sI (Or.inr rfl)).sI (Or.inl ⟨rfl, rfl⟩)⟩
  rw [List.length_append, List.length_singleton] at hi
  rw [z_gI_sI, if_neg (by omega), z_gI_sI]
  by_cases hi2 : i = l.length
  · subst hi2; rw [if_pos ⟨rfl, rfl⟩, gD_app' (Nat.le_refl _), Nat.sub_self]; rfl
  · rw [if_neg (by omega), K.2 i (by omega), gD_app (by omega)]
theorem M_packVar {v : Nat} {l : List Nat} (X0 : MS h m) (K : Mk h m l) (hv : v < 9223372036854775808) (hl : l.length + 9 ≤ 400) : Wp 180 0 [.ref m, .long (Int64.ofNat v), .null, .null, .null] [] h (fun w h' => w = .inl .null ∧ Mk h' m (l ++ vrF 8 v) ∧ Fz (SK m) h h') := by
  have last : ∀ u v l h1, v ≤ 127 → MS h1 m → Mk h1 m l → l.length < 400 → Wp 180 2 [.ref m, .long u, .null, .long (Int64.ofNat v), .null] [] h1 (fun w h' => w = .inl .null ∧ Mk h' m (l ++ [v]) ∧ Fz (SK m) h1 h') := by
    intro u v l h1 hv Y0 K hl
    rw [U180_2]
    simp (disch := omega) only [U180_0, U180_1, U180_3, U180_6, U180_7, U180_10, U180_11, U180_12, U180_15, U180_16, U180_17, U180_20, U180_21, U180_24, U180_25, U180_28, U180_29, U180_30, U180_33, U180_34, U180_35, U180_36, U180_39, c_gt, j_lt, show ¬ 127 < v by omega, Y0.1, j_i, i_add, i_mul, i_sub, i_addn, i_lt, i_eq, i_idx, i_vp, true_and, and_true, false_and, and_false, if_true, if_false, Nat.reduceAdd, Nat.reduceMul, Nat.reduceSub, Nat.reduceEqDiff, Option.some.injEq, exists_eq_left', true_or, or_true, false_or, or_false, not_true_eq_false, not_false_eq_true, eq_self, and_self, Nat.reduceLeDiff, decide_true, decide_false, ne_eq, Nat.left_eq_add, Nat.add_eq_left, Nat.add_left_cancel_iff, Nat.add_zero]
    refine Wp_use (M_pack Y0 K hl) ?_
    rintro _ h2 ⟨rfl, K2, f2⟩
    rw [lo8_of, Nat.mod_eq_of_lt (by omega)] at K2
    simp (disch := omega) only [V177, U180_0, U180_1, U180_3, U180_6, U180_7, U180_10, U180_11, U180_12, U180_15, U180_16, U180_17, U180_20, U180_21, U180_24, U180_25, U180_28, U180_29, U180_30, U180_33, U180_34, U180_35, U180_36, U180_39, true_and, and_true, false_and, and_false, if_true, if_false, Nat.reduceAdd, Nat.reduceMul, Nat.reduceSub, Nat.reduceEqDiff, Option.some.injEq, exists_eq_left', true_or, or_true, false_or, or_false, not_true_eq_false, not_false_eq_true, eq_self, and_self, Nat.reduceLeDiff, decide_true, decide_false, ne_eq, Nat.left_eq_add, Nat.add_eq_left, Nat.add_left_cancel_iff, Nat.add_zero]
    exact ⟨K2, f2⟩
  have key : ∀ n u v l h1, v < 128 ^ (n + 1) → v < 9223372036854775808 → MS h1 m → Mk h1 m l → l.length + (n + 1) ≤ 400 → Wp 180 2 [.ref m, .long u, .null, .long (Int64.ofNat v), .null] [] h1 (fun w h' => w = .inl .null ∧ Mk h' m (l ++ vrF n v) ∧ Fz (SK m) h1 h') := by
    intro n
    induction n with
    | zero =>
      intro u v l h1 hv hv2 Y0 K hl
      exact last u v l h1 (by omega) Y0 K (by omega)
    | succ n ih =>
      intro u v l h1 hv hv2 Y0 K hl
      unfold vrF
      by_cases hg : 127 < v
      · rw [if_pos hg]
        have hd : v / 128 < 128 ^ (n + 1) := by
          rw [Nat.div_lt_iff_lt_mul (by omega), ← Nat.pow_succ]
          exact hv
        rw [U180_2]
        simp (disch := omega) only [U180_0, U180_1, U180_3, U180_6, U180_7, U180_10, U180_11, U180_12, U180_15, U180_16, U180_17, U180_20, U180_21, U180_24, U180_25, U180_28, U180_29, U180_30, U180_33, U180_34, U180_35, U180_36, U180_39, c_gt, j_lt, j_eq, hg, Y0.1, j_div, j_rem, j_i, show ¬ (128 : Nat) = 0 by omega, i_add, i_mul, i_sub, i_addn, i_lt, i_eq, i_idx, i_vp, true_and, and_true, false_and, and_false, if_true, if_false, Nat.reduceAdd, Nat.reduceMul, Nat.reduceSub, Nat.reduceEqDiff, Option.some.injEq, exists_eq_left', true_or, or_true, false_or, or_false, not_true_eq_false, not_false_eq_true, eq_self, and_self, Nat.reduceLeDiff, decide_true, decide_false, ne_eq, Nat.left_eq_add, Nat.add_eq_left, Nat.add_left_cancel_iff, Nat.add_zero]
        refine Wp_use (M_pack Y0 K (by omega)) ?_
        rintro _ h2 ⟨rfl, K2, f2⟩
        rw [lo8_of, Nat.mod_eq_of_lt (by omega)] at K2
        simp (disch := omega) only [V177, U180_0, U180_1, U180_3, U180_6, U180_7, U180_10, U180_11, U180_12, U180_15, U180_16, U180_17, U180_20, U180_21, U180_24, U180_25, U180_28, U180_29, U180_30, U180_33, U180_34, U180_35, U180_36, U180_39, j_eq, j_div, show ¬ (128 : Nat) = 0 by omega, i_add, i_mul, i_sub, i_addn, i_lt, i_eq, i_idx, i_vp, true_and, and_true, false_and, and_false, if_true, if_false, Nat.reduceAdd, Nat.reduceMul, Nat.reduceSub, Nat.reduceEqDiff, Option.some.injEq, exists_eq_left', true_or, or_true, false_or, or_false, not_true_eq_false, not_false_eq_true, eq_self, and_self, Nat.reduceLeDiff, decide_true, decide_false, ne_eq, Nat.left_eq_add, Nat.add_eq_left, Nat.add_left_cancel_iff, Nat.add_zero]
        refine Wp_use (ih _ (v / 128) _ h2 hd (by omega) (Y0.fz f2) K2 (by rw [List.length_append, List.length_singleton]; omega)) ?_
        rintro _ h3 ⟨rfl, K3, f3⟩
        rw [List.append_assoc] at K3
        exact ⟨rfl, K3, f2.trans f3⟩
      · rw [if_neg hg]
        exact last u v l h1 (by omega) Y0 K (by omega)
  simp (disch := omega) only [U180_0, U180_1, i_add, i_mul, i_sub, i_addn, i_lt, i_eq, i_idx, i_vp, true_and, and_true, false_and, and_false, if_true, if_false, Nat.reduceAdd, Nat.reduceMul, Nat.reduceSub, Nat.reduceEqDiff, Option.some.injEq, exists_eq_left', true_or, or_true, false_or, or_false, not_true_eq_false, not_false_eq_true, eq_self, and_self, Nat.reduceLeDiff, decide_true, decide_false, ne_eq, Nat.left_eq_add, Nat.add_eq_left, Nat.add_left_cancel_iff, Nat.add_zero]
  exact key 8 _ v l h (by omega) hv X0 K (by omega)
/-- the last numbers behind some events -/
theorem la_snoc {l : List Pd} {p : Pd} {s k : Nat} (hk : k < 6) (hp : p.2.2.length ≤ 6) (hs : p.1 = s → k < p.2.2.length) : (pkP (l ++ [p])).2.1 (s * 6 + k) = if p.1 = s then numA p.2.2 k else (pkP l).2.1 (s * 6 + k) := by
  rw [pkP_snoc]
  show laU (pkP l).2.1 p.1 p.2.2 (s * 6 + k) = _
  unfold laU
  by_cases h1 : p.1 = s
  · rw [if_pos h1, if_pos (by have := hs h1; subst h1; omega), h1, Nat.add_sub_cancel_left]
  · rw [if_neg h1, if_neg (by omega)]
theorem m1 : Int32.ofNat 0 + -(Int32.ofNat 1) = -(Int32.ofNat 1) := by decide
theorem m2 : Int32.ofNat 0 - Int32.ofNat 1 = -(Int32.ofNat 1) := by decide
theorem M_numberBefore {w e k : Nat} {wr : Nat → Wr} {p : Pd} (X0 : MS h m) (X5 : MW h m wr) (hw : w < 4) (he : (wr w).1[e]? = some p) (hk : k < 6) (h40 : ∀ q ∈ (wr w).1, q.1 < 40) (hn : ∀ q ∈ (wr w).1, q.1 = p.1 → ∃ y, q.2.2[k]? = some (.inl y)) : Wp 175 0 [.ref m, .int (Int32.ofNat w), .int (Int32.ofNat e), .int (Int32.ofNat k), .null, .null] [] h Q ↔ Q (.inl (.int ((pkP ((wr w).1.take e)).2.1 (p.1 * 6 + k)))) h := by
  obtain ⟨w1, w2, w3, w4, w5⟩ := X5 w hw
  have hel : e < (wr w).1.length := by
    rcases Nat.lt_or_ge e (wr w).1.length with z | z
    · exact z
    · rw [List.getElem?_eq_none z] at he; cases he
  have hp40 := h40 p (List.mem_of_getElem? he)
  have hmin : -(Int32.ofNat 1) < Int32.ofNat 0 := by decide
  have end0 : Wp 175 18 [.ref m, .int (Int32.ofNat w), .int (Int32.ofNat e), .int (Int32.ofNat k), .int (Int32.ofNat p.1), .int (-(Int32.ofNat 1))] [] h Q ↔ Q (.inl (.int ((pkP ((wr w).1.take 0)).2.1 (p.1 * 6 + k)))) h := by
    rw [U175_18]
    simp (disch := omega) only [U175_0, U175_1, U175_4, U175_6, U175_7, U175_8, U175_9, U175_10, U175_11, U175_13, U175_14, U175_15, U175_16, U175_20, U175_23, U175_24, U175_27, U175_29, U175_30, U175_31, U175_33, U175_34, U175_35, U175_37, U175_40, U175_41, U175_44, U175_46, U175_48, U175_49, U175_50, U175_52, U175_53, U175_54, U175_55, U175_56, U175_57, U175_58, U175_61, U175_64, U175_65, hmin, i_add, i_mul, i_sub, i_addn, i_lt, i_eq, i_idx, i_vp, true_and, and_true, false_and, and_false, if_true, if_false, Nat.reduceAdd, Nat.reduceMul, Nat.reduceSub, Nat.reduceEqDiff, Option.some.injEq, exists_eq_left', true_or, or_true, false_or, or_false, not_true_eq_false, not_false_eq_true, eq_self, and_self, Nat.reduceLeDiff, decide_true, decide_false, ne_eq, Nat.left_eq_add, Nat.add_eq_left, Nat.add_left_cancel_iff, Nat.add_zero]
    rfl
  have step : ∀ j (v : Int32), j < e → Int32.ofNat j + -(Int32.ofNat 1) = v → (Wp 175 18 [.ref m, .int (Int32.ofNat w), .int (Int32.ofNat e), .int (Int32.ofNat k), .int (Int32.ofNat p.1), .int v] [] h Q ↔ Q (.inl (.int ((pkP ((wr w).1.take j)).2.1 (p.1 * 6 + k)))) h) → (Wp 175 18 [.ref m, .int (Int32.ofNat w), .int (Int32.ofNat e), .int (Int32.ofNat k), .int (Int32.ofNat p.1), .int (Int32.ofNat j)] [] h Q ↔ Q (.inl (.int ((pkP ((wr w).1.take (j + 1))).2.1 (p.1 * 6 + k)))) h) := by
    intro j v hj hv go
    have hj' : j < (wr w).1.length := by omega
    have hg := List.getElem?_eq_getElem hj'
    obtain ⟨y1, y2, y3, y4⟩ := w5 j _ hg
    have hq40 := h40 _ (List.mem_of_getElem? hg)
    have hN := hn _ (List.mem_of_getElem? hg)
    rw [List.take_succ_eq_append_getElem hj', la_snoc hk y3 (fun z => by
      obtain ⟨y, hy⟩ := hN z
      rcases Nat.lt_or_ge k (wr w).1[j].2.2.length with a | a
      · exact a
      · rw [List.getElem?_eq_none a] at hy; cases hy)]
    rw [U175_18]
    generalize hP : (wr w).1[j] = P at *
    by_cases hsite : P.1 = p.1
    · obtain ⟨y, hy⟩ := hN hsite
      have mc := y4 k _ hy
      have en : numA P.2.2 k = y := by unfold numA; rw [hy]; rfl
      rw [if_pos hsite, en]
      rw [hsite] at y1
      simp (disch := omega) only [U175_0, U175_1, U175_4, U175_6, U175_7, U175_8, U175_9, U175_10, U175_11, U175_13, U175_14, U175_15, U175_16, U175_20, U175_23, U175_24, U175_27, U175_29, U175_30, U175_31, U175_33, U175_34, U175_35, U175_37, U175_40, U175_41, U175_44, U175_46, U175_48, U175_49, U175_50, U175_52, U175_53, U175_54, U175_55, U175_56, U175_57, U175_58, U175_61, U175_64, U175_65, X0.1, mp13 X0, mk10 X0, mn10 X0, mp16 X0, mk13 X0, mn13 X0, y1, mc.2, show ¬ j < 0 by omega, show 120 * w + j < 480 by omega, show 6 * (120 * w + j) + k < 2880 by omega, i_add, i_mul, i_lt, i_eq, i_idx, i_vp, true_and, and_true, false_and, and_false, if_true, if_false, Nat.reduceAdd, Nat.reduceMul, Nat.reduceSub, Nat.reduceEqDiff, Option.some.injEq, exists_eq_left', true_or, or_true, false_or, or_false, not_true_eq_false, not_false_eq_true, eq_self, and_self, Nat.reduceLeDiff, decide_true, decide_false, ne_eq, Nat.left_eq_add, Nat.add_eq_left, Nat.add_left_cancel_iff, Nat.add_zero]
    · rw [if_neg hsite, ← go]
      simp (disch := omega) only [U175_0, U175_1, U175_4, U175_6, U175_7, U175_8, U175_9, U175_10, U175_11, U175_13, U175_14, U175_15, U175_16, U175_20, U175_23, U175_24, U175_27, U175_29, U175_30, U175_31, U175_33, U175_34, U175_35, U175_37, U175_40, U175_41, U175_44, U175_46, U175_48, U175_49, U175_50, U175_52, U175_53, U175_54, U175_55, U175_56, U175_57, U175_58, U175_61, U175_64, U175_65, X0.1, mp13 X0, mk10 X0, mn10 X0, y1, hsite, show ¬ j < 0 by omega, show 120 * w + j < 480 by omega, i_add, i_mul, i_lt, i_eq, i_idx, i_vp, hv, true_and, and_true, false_and, and_false, if_true, if_false, Nat.reduceAdd, Nat.reduceMul, Nat.reduceSub, Nat.reduceEqDiff, Option.some.injEq, exists_eq_left', true_or, or_true, false_or, or_false, not_true_eq_false, not_false_eq_true, eq_self, and_self, Nat.reduceLeDiff, decide_true, decide_false, ne_eq, Nat.left_eq_add, Nat.add_eq_left, Nat.add_left_cancel_iff, Nat.add_zero]
  have key : ∀ j, j < e → (Wp 175 18 [.ref m, .int (Int32.ofNat w), .int (Int32.ofNat e), .int (Int32.ofNat k), .int (Int32.ofNat p.1), .int (Int32.ofNat j)] [] h Q ↔ Q (.inl (.int ((pkP ((wr w).1.take (j + 1))).2.1 (p.1 * 6 + k)))) h) := by
    intro j
    induction j with
    | zero => intro hj; exact step 0 _ hj m1 end0
    | succ j ih => intro hj; exact step (j + 1) _ hj (by rw [i_addn (by omega), Nat.add_sub_cancel]) (ih (by omega))
  cases e with
  | zero =>
    have y0 := (w5 0 p he).1
    rw [Nat.add_zero] at y0
    simp (disch := omega) only [U175_0, U175_1, U175_4, U175_6, U175_7, U175_8, U175_9, U175_10, U175_11, U175_13, U175_14, U175_15, U175_16, X0.1, mp13 X0, mk10 X0, mn10 X0, y0, m2, show 120 * w < 480 by omega, i_add, i_mul, i_lt, i_eq, i_idx, i_vp, true_and, and_true, false_and, and_false, if_true, if_false, Nat.reduceAdd, Nat.reduceMul, Nat.reduceSub, Nat.reduceEqDiff, Option.some.injEq, exists_eq_left', true_or, or_true, false_or, or_false, not_true_eq_false, not_false_eq_true, eq_self, and_self, Nat.reduceLeDiff, decide_true, decide_false, ne_eq, Nat.left_eq_add, Nat.add_eq_left, Nat.add_left_cancel_iff, Nat.add_zero]
    have e0 : gI_ h (m + 10) (120 * w) = Int32.ofNat p.1 := y0
    rw [e0]
    exact end0
  | succ e =>
    have := key e (by omega)
    simp (disch := omega) only [U175_0, U175_1, U175_4, U175_6, U175_7, U175_8, U175_9, U175_10, U175_11, U175_13, U175_14, U175_15, U175_16, X0.1, mp13 X0, mk10 X0, mn10 X0, (w5 _ p he).1, show 120 * w + (e + 1) < 480 by omega, Nat.add_sub_cancel, i_add, i_mul, i_sub, i_addn, i_lt, i_eq, i_idx, i_vp, true_and, and_true, false_and, and_false, if_true, if_false, Nat.reduceAdd, Nat.reduceMul, Nat.reduceSub, Nat.reduceEqDiff, Option.some.injEq, exists_eq_left', true_or, or_true, false_or, or_false, not_true_eq_false, not_false_eq_true, eq_self, and_self, Nat.reduceLeDiff, decide_true, decide_false, ne_eq, Nat.left_eq_add, Nat.add_eq_left, Nat.add_left_cancel_iff, Nat.add_zero]
    exact this
end
