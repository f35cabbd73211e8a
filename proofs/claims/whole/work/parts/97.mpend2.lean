/-! ===== the model: addPending ===== -/
section
variable {h h' : MH_} {m : Nat} {S : Nat → Nat → Prop} {ar : List Arg} {wr : Nat → Wr}
/-- what an added event touches -/
def ST (m P : Nat) : Nat → Nat → Prop := fun a i => ((a = m + 10 ∨ a = m + 11) ∧ i = P) ∨ ((a = m + 12 ∨ a = m + 13) ∧ 6 * P ≤ i ∧ i < 6 * P + 6) ∨ (a = m + 14 ∧ 96 * P ≤ i ∧ i < 96 * P + 96)
def SPd (m : Nat) : Nat → Nat → Prop := fun a i => m + 9 ≤ a ∧ a ≤ m + 14
/-- slot j of place P holds argument j -/
def D1 (h h1 : MH_) (m P j : Nat) : Prop := gI_ h1 (m + 12) (6 * P + j) = gI_ h (m + 6) j ∧ gI_ h1 (m + 13) (6 * P + j) = gI_ h (m + 7) j ∧ ∀ i, i < 16 → gI_ h1 (m + 14) (16 * (6 * P + j) + i) = gI_ h (m + 8) (16 * j + i)
theorem D1.mc {P j : Nat} {g : Arg} {h1 : MH_} (d : D1 h h1 m P j) (c : MC h (m + 6) (m + 7) (m + 8) j g) : MC h1 (m + 12) (m + 13) (m + 14) (6 * P + j) g := by
  cases g with
  | inl y => exact ⟨by rw [d.1]; exact c.1, by rw [d.2.1]; exact c.2⟩
  | inr t => exact ⟨by rw [d.1]; exact c.1, c.2.1, fun k hk => by have := c.2.1; rw [d.2.2 k (by omega)]; exact c.2.2.1 k hk, c.2.2.2⟩
theorem MW.add {w s t P : Nat} (X4 : MA h m ar) (X5 : MW h m wr) (hw : w < 4) (hl : (wr w).1.length < 120) (hP : P = 120 * w + (wr w).1.length) {h1 : MH_} (f : Fz (fun a i => ST m P a i ∨ (a = m + 9 ∧ i = w)) h h1) (h9 : gI_ h1 (m + 9) w = Int32.ofNat ((wr w).1.length + 1)) (h10 : gI_ h1 (m + 10) P = Int32.ofNat s) (h11 : gJ_ h1 (m + 11) P = Int64.ofNat t) (hD : ∀ j, j < ar.length → D1 h h1 m P j) : MW h1 m (wrS wr w ((wr w).1 ++ [(s, t, ar)], (wr w).2.1, (wr w).2.2)) := by
  intro q hq
  -- an event that stays
  have old : ∀ q, q < 4 → ∀ (e : Nat) (p : Pd), (wr q).1[e]? = some p → gI_ h1 (m + 10) (120 * q + e) = Int32.ofNat p.1 ∧ gJ_ h1 (m + 11) (120 * q + e) = Int64.ofNat p.2.1 ∧ p.2.2.length ≤ 6 ∧ ∀ (k : Nat) (g : Arg), p.2.2[k]? = some g → MC h1 (m + 12) (m + 13) (m + 14) (6 * (120 * q + e) + k) g := by
    intro q hq e p he
    obtain ⟨x1, x2, x3, x4, x5⟩ := X5 q hq
    obtain ⟨y1, y2, y3, y4⟩ := x5 e p he
    have hel : e < (wr q).1.length := by
      rcases Nat.lt_or_ge e (wr q).1.length with z | z
      · exact z
      · rw [List.getElem?_eq_none z] at he; cases he
    have hne : ¬ 120 * q + e = P := by
      by_cases hqw : q = w
      · subst hqw; omega
      · omega
    generalize 120 * q + e = R at *
    refine ⟨by rw [f.gI (by unfold ST; omega)]; exact y1, by rw [f.gJ (by unfold ST; omega)]; exact y2, y3, fun k g hg => ?_⟩
    have hk : k < p.2.2.length := by
      rcases Nat.lt_or_ge k p.2.2.length with z | z
      · exact z
      · rw [List.getElem?_eq_none z] at hg; cases hg
    have c := y4 k g hg
    cases g with
    | inl y => exact ⟨by rw [f.gI (by unfold ST; omega)]; exact c.1, by rw [f.gI (by unfold ST; omega)]; exact c.2⟩
    | inr t => exact ⟨by rw [f.gI (by unfold ST; omega)]; exact c.1, c.2.1, fun i hi => by have := c.2.1; rw [f.gI (by unfold ST; omega)]; exact c.2.2.1 i hi, c.2.2.2⟩
  unfold wrS
  by_cases hqw : q = w
  · subst hqw
    rw [if_pos rfl]
    obtain ⟨x1, x2, x3, x4, x5⟩ := X5 q hq
    refine ⟨by rw [h9, List.length_append]; rfl, by rw [List.length_append, List.length_singleton]; omega, by rw [f.gJ (by unfold ST; omega)]; exact x3, by rw [f.gI (by unfold ST; omega)]; exact x4, fun e p he => ?_⟩
    by_cases hel : e < (wr q).1.length
    · rw [List.getElem?_append_left hel] at he
      exact old q hq e p he
    · have he' : e = (wr q).1.length := by
        rcases Nat.lt_or_ge e ((wr q).1.length + 1) with z | z
        · omega
        · rw [List.getElem?_eq_none (by rw [List.length_append, List.length_singleton]; omega)] at he; cases he
      subst he'
      rw [List.getElem?_append_right (Nat.le_refl _), Nat.sub_self] at he
      have := Option.some.inj he
      subst this
      rw [← hP]
      refine ⟨h10, h11, X4.2.1, fun k g hg => ?_⟩
      have hg' : ar[k]? = some g := hg
      have hk : k < ar.length := by
        rcases Nat.lt_or_ge k ar.length with z | z
        · exact z
        · rw [List.getElem?_eq_none z] at hg'; cases hg'
      exact (hD k hk).mc (X4.2.2 k g hg')
  · rw [if_neg hqw]
    obtain ⟨x1, x2, x3, x4, x5⟩ := X5 q hq
    exact ⟨by rw [f.gI (by unfold ST; omega)]; exact x1, x2, by rw [f.gJ (by unfold ST; omega)]; exact x3, by rw [f.gI (by unfold ST; omega)]; exact x4, old q hq⟩
theorem M_addPending {w s t : Nat} (X0 : MS h m) (X4 : MA h m ar) (X5 : MW h m wr) (hw : w < 4) (hl : (wr w).1.length < 120) : Wp 144 0 [.ref m, .int (Int32.ofNat w), .int (Int32.ofNat s), .long (Int64.ofNat t), .null, .null, .null, .null] [] h (fun v h' => v = .inl .null ∧ MW h' m (wrS wr w ((wr w).1 ++ [(s, t, ar)], (wr w).2.1, (wr w).2.2)) ∧ Fz (SPd m) h h') := by
  obtain ⟨w1, w2, w3, w4, w5⟩ := X5 w hw
  have h6 := X4.2.1
  obtain ⟨P, hP⟩ : ∃ P, P = 120 * w + (wr w).1.length := ⟨_, rfl⟩
  have hP4 : P < 480 := by omega
  have inner : ∀ (Q : Rs_ → MH_ → Prop) k n i h1, k < ar.length → i + n = 16 → Fz (ST m P) h h1 → gI_ h1 (m + 10) P = Int32.ofNat s → gJ_ h1 (m + 11) P = Int64.ofNat t → (∀ j, j < k → D1 h h1 m P j) → gI_ h1 (m + 12) (6 * P + k) = gI_ h (m + 6) k → gI_ h1 (m + 13) (6 * P + k) = gI_ h (m + 7) k → (∀ c, c < i → gI_ h1 (m + 14) (16 * (6 * P + k) + c) = gI_ h (m + 8) (16 * k + c)) → (∀ h2, Fz (ST m P) h h2 → gI_ h2 (m + 10) P = Int32.ofNat s → gJ_ h2 (m + 11) P = Int64.ofNat t → (∀ j, j < k + 1 → D1 h h2 m P j) → Wp 144 129 [.ref m, .int (Int32.ofNat w), .int (Int32.ofNat s), .long (Int64.ofNat t), .null, .int (Int32.ofNat P), .int (Int32.ofNat k), .int (Int32.ofNat 16)] [] h2 Q) → Wp 144 84 [.ref m, .int (Int32.ofNat w), .int (Int32.ofNat s), .long (Int64.ofNat t), .null, .int (Int32.ofNat P), .int (Int32.ofNat k), .int (Int32.ofNat i)] [] h1 Q := by
    intro Q k n
    induction n with
    | zero =>
      intro i h1 hk hi f1 e10 e11 hD e12 e13 e14 go
      obtain rfl : i = 16 := by omega
      rw [U144_84]
      simp (disch := omega) only [U144_86, U144_88, show ¬ (16 : Nat) < 16 by omega, i_add, i_mul, i_sub, i_addn, i_lt, i_eq, i_idx, i_vp, true_and, and_true, false_and, and_false, if_true, if_false, Nat.reduceAdd, Nat.reduceMul, Nat.reduceSub, Nat.reduceEqDiff, Option.some.injEq, exists_eq_left', true_or, or_true, false_or, or_false, not_true_eq_false, not_false_eq_true, eq_self, and_self, Nat.reduceLeDiff, decide_true, decide_false, ne_eq, Nat.left_eq_add, Nat.add_eq_left, Nat.add_left_cancel_iff, Nat.add_zero]
      refine go h1 f1 e10 e11 (fun j hj => ?_)
      by_cases hjk : j < k
      · exact hD j hjk
      · obtain rfl : j = k := by omega
        exact ⟨e12, e13, e14⟩
    | succ n ih =>
      intro i h1 hk hi f1 e10 e11 hD e12 e13 e14 go
      have Y0 := X0.fz f1
      have a8 : gI_ h1 (m + 8) (16 * k + i) = gI_ h (m + 8) (16 * k + i) := f1.gI (by unfold ST; omega)
      rw [U144_84]
      simp (disch := omega) only [U144_86, U144_88, U144_91, U144_92, U144_95, U144_97, U144_99, U144_101, U144_102, U144_104, U144_105, U144_106, U144_108, U144_109, U144_110, U144_113, U144_115, U144_117, U144_118, U144_120, U144_121, U144_122, U144_123, U144_126, Y0.1, mp17 Y0, mk14 Y0, mn14 Y0, mp11 Y0, mk8 Y0, mn8 Y0, show i < 16 by omega, show 16 * (6 * P + k) + i < 46080 by omega, show 16 * k + i < 96 by omega, a8, i_add, i_mul, i_sub, i_addn, i_lt, i_eq, i_idx, i_vp, true_and, and_true, false_and, and_false, if_true, if_false, Nat.reduceAdd, Nat.reduceMul, Nat.reduceSub, Nat.reduceEqDiff, Option.some.injEq, exists_eq_left', true_or, or_true, false_or, or_false, not_true_eq_false, not_false_eq_true, eq_self, and_self, Nat.reduceLeDiff, decide_true, decide_false, ne_eq, Nat.left_eq_add, Nat.add_eq_left, Nat.add_left_cancel_iff, Nat.add_zero]
      have f2 : Fz (fun a c => a = m + 14 ∧ c = 16 * (6 * P + k) + i) h1 (sI_ h1 (m + 14) (16 * (6 * P + k) + i) (gI_ h (m + 8) (16 * k + i))) := Fz.rfl'.sI ⟨rfl, rfl⟩
      refine ih (i + 1) _ hk (by omega) (f1.trans (f2.mono (fun a c z => by unfold ST; omega))) (by rw [f2.gI (by omega)]; exact e10) (by rw [f2.gJ (by omega)]; exact e11) (fun j hj => ?_) (by rw [f2.gI (by omega)]; exact e12) (by rw [f2.gI (by omega)]; exact e13) (fun c hc => ?_) go
      · obtain ⟨d1, d2, d3⟩ := hD j hj
        exact ⟨by rw [f2.gI (by omega)]; exact d1, by rw [f2.gI (by omega)]; exact d2, fun c hc => by rw [f2.gI (by omega)]; exact d3 c hc⟩
      · by_cases hci : c = i
        · subst hci; rw [z_gI_sI, if_pos ⟨rfl, rfl⟩]
        · rw [f2.gI (by omega)]; exact e14 c (by omega)
  have outer : ∀ n k h1 y, k + n = ar.length → Fz (ST m P) h h1 → gI_ h1 (m + 10) P = Int32.ofNat s → gJ_ h1 (m + 11) P = Int64.ofNat t → (∀ j, j < k → D1 h h1 m P j) → Wp 144 32 [.ref m, .int (Int32.ofNat w), .int (Int32.ofNat s), .long (Int64.ofNat t), .null, .int (Int32.ofNat P), .int (Int32.ofNat k), y] [] h1 (fun v h' => v = .inl .null ∧ MW h' m (wrS wr w ((wr w).1 ++ [(s, t, ar)], (wr w).2.1, (wr w).2.2)) ∧ Fz (SPd m) h h') := by
    intro n
    induction n with
    | zero =>
      intro k h1 y hk f1 e10 e11 hD
      have Y0 := X0.fz f1
      have a8 : gI_ h1 m 8 = Int32.ofNat ar.length := by rw [f1.gI (by unfold ST; omega)]; exact X4.1
      have a9 : gI_ h1 (m + 9) w = Int32.ofNat (wr w).1.length := by rw [f1.gI (by unfold ST; omega)]; exact w1
      rw [U144_32]
      simp (disch := omega) only [U144_34, U144_35, U144_38, U144_135, U144_136, U144_139, U144_140, U144_141, U144_142, U144_143, U144_144, U144_145, Y0.1, a8, a9, mp12 Y0, mk9 Y0, mn9 Y0, hw, show ¬ k < ar.length by omega, i_add, i_mul, i_sub, i_addn, i_lt, i_eq, i_idx, i_vp, true_and, and_true, false_and, and_false, if_true, if_false, Nat.reduceAdd, Nat.reduceMul, Nat.reduceSub, Nat.reduceEqDiff, Option.some.injEq, exists_eq_left', true_or, or_true, false_or, or_false, not_true_eq_false, not_false_eq_true, eq_self, and_self, Nat.reduceLeDiff, decide_true, decide_false, ne_eq, Nat.left_eq_add, Nat.add_eq_left, Nat.add_left_cancel_iff, Nat.add_zero]
      have f2 : Fz (fun a i => a = m + 9 ∧ i = w) h1 (sI_ h1 (m + 9) w (Int32.ofNat ((wr w).1.length + 1))) := Fz.rfl'.sI ⟨rfl, rfl⟩
      refine ⟨X5.add X4 hw hl hP ((f1.mono (fun a i z => Or.inl z)).trans (f2.mono (fun a i z => Or.inr z))) (by rw [z_gI_sI, if_pos ⟨rfl, rfl⟩]) (by rw [f2.gI (by omega)]; exact e10) (by rw [f2.gJ (by omega)]; exact e11) (fun j hj => ?_), (f1.mono (fun a i z => by unfold ST at z; unfold SPd; omega)).trans (f2.mono (fun a i z => by unfold SPd; omega))⟩
      obtain ⟨d1, d2, d3⟩ := hD j (by omega)
      exact ⟨by rw [f2.gI (by omega)]; exact d1, by rw [f2.gI (by omega)]; exact d2, fun c hc => by rw [f2.gI (by omega)]; exact d3 c hc⟩
    | succ n ih =>
      intro k h1 y hk f1 e10 e11 hD
      have Y0 := X0.fz f1
      have a8 : gI_ h1 m 8 = Int32.ofNat ar.length := by rw [f1.gI (by unfold ST; omega)]; exact X4.1
      have a6 : gI_ h1 (m + 6) k = gI_ h (m + 6) k := f1.gI (by unfold ST; omega)
      have a7 : gI_ h1 (m + 7) k = gI_ h (m + 7) k := f1.gI (by unfold ST; omega)
      rw [U144_32]
      simp (disch := omega) only [U144_34, U144_35, U144_38, U144_41, U144_42, U144_45, U144_47, U144_49, U144_50, U144_52, U144_53, U144_54, U144_57, U144_59, U144_60, U144_61, U144_62, U144_65, U144_67, U144_69, U144_70, U144_72, U144_73, U144_74, U144_77, U144_79, U144_80, U144_81, U144_82, z_kd_sI, z_gP_sI, z_ln_sI, z_gI_sI, Y0.1, a8, a6, a7, mp15 Y0, mk12 Y0, mn12 Y0, mp16 Y0, mk13 Y0, mn13 Y0, mp9 Y0, mk6 Y0, mn6 Y0, mp10 Y0, mk7 Y0, mn7 Y0, show k < ar.length by omega, show 6 * P + k < 2880 by omega, show k < 6 by omega, show ¬ m + 7 = m + 12 by omega, false_and, if_false, i_add, i_mul, i_sub, i_addn, i_lt, i_eq, i_idx, i_vp, true_and, and_true, false_and, and_false, if_true, if_false, Nat.reduceAdd, Nat.reduceMul, Nat.reduceSub, Nat.reduceEqDiff, Option.some.injEq, exists_eq_left', true_or, or_true, false_or, or_false, not_true_eq_false, not_false_eq_true, eq_self, and_self, Nat.reduceLeDiff, decide_true, decide_false, ne_eq, Nat.left_eq_add, Nat.add_eq_left, Nat.add_left_cancel_iff, Nat.add_zero]
      have f2 : Fz (fun a c => (a = m + 12 ∨ a = m + 13) ∧ c = 6 * P + k) h1 (sI_ (sI_ h1 (m + 12) (6 * P + k) (gI_ h (m + 6) k)) (m + 13) (6 * P + k) (gI_ h (m + 7) k)) := (Fz.rfl'.sI ⟨Or.inl rfl, rfl⟩).sI ⟨Or.inr rfl, rfl⟩
      refine inner _ k 16 0 _ (by omega) (by omega) (f1.trans (f2.mono (fun a c z => by unfold ST; omega))) (by rw [f2.gI (by omega)]; exact e10) (by rw [f2.gJ (by omega)]; exact e11) (fun j hj => ?_) (by rw [z_gI_sI, if_neg (by omega), z_gI_sI, if_pos ⟨rfl, rfl⟩]) (by rw [z_gI_sI, if_pos ⟨rfl, rfl⟩]) (fun c hc => absurd hc (Nat.not_lt_zero _)) (fun h3 f3 e10' e11' hD3 => ?_)
      · obtain ⟨d1, d2, d3⟩ := hD j hj
        exact ⟨by rw [f2.gI (by omega)]; exact d1, by rw [f2.gI (by omega)]; exact d2, fun c hc => by rw [f2.gI (by omega)]; exact d3 c hc⟩
      · simp (disch := omega) only [U144_129, U144_132, i_add, i_mul, i_sub, i_addn, i_lt, i_eq, i_idx, i_vp, true_and, and_true, false_and, and_false, if_true, if_false, Nat.reduceAdd, Nat.reduceMul, Nat.reduceSub, Nat.reduceEqDiff, Option.some.injEq, exists_eq_left', true_or, or_true, false_or, or_false, not_true_eq_false, not_false_eq_true, eq_self, and_self, Nat.reduceLeDiff, decide_true, decide_false, ne_eq, Nat.left_eq_add, Nat.add_eq_left, Nat.add_left_cancel_iff, Nat.add_zero]
        exact ih (k + 1) h3 _ (by omega) f3 e10' e11' hD3
  simp (disch := omega) only [U144_0, U144_2, U144_3, U144_4, U144_5, U144_8, U144_9, U144_10, U144_11, U144_13, U144_14, U144_17, U144_19, U144_20, U144_21, U144_22, U144_25, U144_27, U144_28, U144_29, U144_30, z_kd_sI, z_ln_sI, z_gI_sI, z_gJ_sI, z_gP_sI, z_nx_sI, z_rc_sI, z_rs_sI, z_em_sI, z_mi_sI, z_kd_sJ, z_ln_sJ, z_gI_sJ, z_gJ_sJ, z_gP_sJ, z_nx_sJ, z_rc_sJ, z_rs_sJ, z_em_sJ, z_mi_sJ, z_kd_sP, z_ln_sP, z_gI_sP, z_gJ_sP, z_gP_sP, z_nx_sP, z_rc_sP, z_rs_sP, z_em_sP, z_mi_sP, z_kd_nw, z_ln_nw, z_gI_nw, z_gJ_nw, z_gP_nw, z_nx_nw, z_rc_nw, z_rs_nw, z_em_nw, z_mi_nw, z_kd_cI, z_ln_cI, z_gI_cI, z_gJ_cI, z_gP_cI, z_nx_cI, z_rc_cI, z_rs_cI, z_em_cI, z_mi_cI, z_kd_cP, z_ln_cP, z_gI_cP, z_gJ_cP, z_gP_cP, z_nx_cP, z_rc_cP, z_rs_cP, z_em_cP, z_mi_cP, z_kd_wI, z_ln_wI, z_gI_wI, z_gJ_wI, z_gP_wI, z_nx_wI, z_rc_wI, z_rs_wI, z_em_wI, z_mi_wI, z_kd_wJ, z_ln_wJ, z_gI_wJ, z_gJ_wJ, z_gP_wJ, z_nx_wJ, z_rc_wJ, z_rs_wJ, z_em_wJ, z_mi_wJ, X0.1, mp12 X0, mk9 X0, mn9 X0, mp13 X0, mk10 X0, mn10 X0, mp14 X0, mk11 X0, mn11 X0, w1, hw, ← hP, hP4, i_add, i_mul, i_sub, i_addn, i_lt, i_eq, i_idx, i_vp, true_and, and_true, false_and, and_false, if_true, if_false, Nat.reduceAdd, Nat.reduceMul, Nat.reduceSub, Nat.reduceEqDiff, Option.some.injEq, exists_eq_left', true_or, or_true, false_or, or_false, not_true_eq_false, not_false_eq_true, eq_self, and_self, Nat.reduceLeDiff, decide_true, decide_false, ne_eq, Nat.left_eq_add, Nat.add_eq_left, Nat.add_left_cancel_iff, Nat.add_zero]
  have f0 : Fz (ST m P) h (sJ_ (sI_ h (m + 10) P (Int32.ofNat s)) (m + 11) P (Int64.ofNat t)) := (Fz.rfl'.sI (Or.inl ⟨Or.inl rfl, rfl⟩)).sJ (Or.inl ⟨Or.inr rfl, rfl⟩)
  exact outer ar.length 0 _ _ (by omega) f0 (by rw [z_gI_sJ, z_gI_sI, if_pos ⟨rfl, rfl⟩]) (by rw [z_gJ_sJ, if_pos ⟨rfl, rfl⟩]) (fun j hj => absurd hj (Nat.not_lt_zero _))
end
