/-! ===== the model: site ===== -/
theorem slts_cl {b : Nat} {us : List Tok} : slts (.inl b :: us) = slts us := rfl
theorem slts_cr {q : Nat × Nat} {us : List Tok} : (slts (.inr q :: us)).length = (slts us).length + 1 := rfl
theorem fm_lim : ∀ N r, r.length ≤ N → ∀ p n ts, n ≤ 6 → p ≤ 80 → fm r p n = .inr ts → (slts ts).length + n ≤ 6 ∧ p + r.length ≤ 80 := by
  intro N
  induction N with
  | zero =>
    intro r hr p n ts hn hp h
    have : r = [] := List.length_eq_zero_iff.mp (by omega)
    subst this
    unfold fm at h
    have e := Sum.inr.inj h
    subst e
    exact ⟨by rw [show (slts []).length = 0 from rfl]; omega, by rw [List.length_nil]; omega⟩
  | succ N ih =>
    intro r hr p n ts hn hp h
    cases r with
    | nil =>
      unfold fm at h
      have e := Sum.inr.inj h
      subst e
      exact ⟨by rw [show (slts []).length = 0 from rfl]; omega, by rw [List.length_nil]; omega⟩
    | cons b r =>
      rw [List.length_cons] at hr
      unfold fm at h
      split at h
      · cases h
      · rename_i hb
        have hsg : sg b := by
          by_cases hs : sg b
          · exact hs
          · exact absurd (fun z => hs z.2) hb
        split at h
        · rename_i h125
          cases r with
          | nil => cases h
          | cons c r' =>
            simp only at h
            split at h
            · rename_i hc
              obtain ⟨us, h1, h2⟩ := tcons_r h
              obtain ⟨e1, e2⟩ := ih r' (by rw [List.length_cons] at hr; omega) _ _ _ (by omega) (by omega) h1
              subst h2
              simp only [List.length_cons] at *
              exact ⟨by rw [slts_cl]; omega, by omega⟩
            · cases h
        · rename_i h125
          split at h
          · rename_i h123
            obtain ⟨us, h1, h2⟩ := tcons_r h
            obtain ⟨e1, e2⟩ := ih r (by omega) _ _ _ (by omega) (by omega) h1
            subst h2
            simp only [List.length_cons] at *
            exact ⟨by rw [slts_cl]; omega, by omega⟩
          · rename_i h123
            have hb123 : b = 123 := by omega
            subst hb123
            cases r with
            | nil => simp only at h; split at h <;> cases h
            | cons c r' =>
              simp only at h
              rw [List.length_cons] at hr
              split at h
              · rename_i hc
                split at h
                · obtain ⟨us, h1, h2⟩ := tcons_r h
                  obtain ⟨e1, e2⟩ := ih r' (by omega) _ _ _ (by omega) (by omega) h1
                  subst h2
                  simp only [List.length_cons] at *
                  exact ⟨by rw [slts_cl]; omega, by omega⟩
                · cases h
              · split at h
                · cases h
                · split at h
                  · cases h
                  · split at h
                    · rename_i hfe
                      cases r' with
                      | nil => cases h
                      | cons d r'' =>
                        simp only at h
                        rw [List.length_cons] at hr
                        split at h
                        · rename_i hd
                          cases r'' with
                          | nil => cases h
                          | cons e r3 =>
                            simp only at h
                            rw [List.length_cons] at hr
                            split at h
                            · rename_i he
                              obtain ⟨us, h1, h2⟩ := tcons_r h
                              obtain ⟨e1, e2⟩ := ih r3 (by omega) _ _ _ (by omega) (by omega) h1
                              subst h2
                              simp only [List.length_cons] at *
                              exact ⟨by rw [slts_cr]; omega, by omega⟩
                            · cases h
                        · cases h
                    · rename_i hfe
                      split at h
                      · rename_i hk
                        cases r' with
                        | nil => cases h
                        | cons e r'' =>
                          simp only at h
                          rw [List.length_cons] at hr
                          split at h
                          · rename_i he
                            obtain ⟨us, h1, h2⟩ := tcons_r h
                            obtain ⟨e1, e2⟩ := ih r'' (by omega) _ _ _ (by omega) (by omega) h1
                            subst h2
                            simp only [List.length_cons] at *
                            exact ⟨by rw [slts_cr]; omega, by omega⟩
                          · cases h
                      · cases h
section
variable {h h' : MH_} {m : Nat} {S : Nat → Nat → Prop} {tx : List Nat} {si : List (List Tok)} {nm : Nat → List Nat} {ar : List Arg} {wr : Nat → Wr} {fl : List Nat} {du : Nat} {cu : Bool} {es : List Ev} {br : Nat} {tm : List Tm}
theorem M_formatFault {Q : Rs_ → MH_ → Prop} (X0 : MS h m) (X1 : MT h m tx) : Wp 159 0 [.ref m, .null, .null, .null] [] h Q ↔ Q (.inl (.int (ffI (fm tx 0 0)))) h := by
  simp (disch := omega) only [U159_0, U159_1, U159_2, U159_3, i_add, i_mul, i_sub, i_addn, i_lt, i_eq, i_idx, i_vp, true_and, and_true, false_and, and_false, if_true, if_false, Nat.reduceAdd, Nat.reduceMul, Nat.reduceSub, Nat.reduceEqDiff, Option.some.injEq, exists_eq_left', true_or, or_true, false_or, or_false, not_true_eq_false, not_false_eq_true, eq_self, and_self, Nat.reduceLeDiff, decide_true, decide_false, ne_eq, Nat.left_eq_add, Nat.add_eq_left, Nat.add_left_cancel_iff, Nat.add_zero]
  exact M_ff X0 X1 tx.length tx (Nat.le_refl _) 0 0 .null rfl (Nat.zero_le _) (by omega)
def PMS (h : MH_) (m : Nat) (tx : List Nat) (si : List (List Tok)) (nm : Nat → List Nat) (ar : List Arg) (wr : Nat → Wr) (fl : List Nat) (du : Nat) (cu : Bool) (es : List Ev) (br : Nat) (tm : List Tm) : Rs_ → MH_ → Prop :=
  match fm tx 0 0 with
  | .inl q => PM h m (.int (-(Int32.ofNat 1) - Int32.ofNat q)) 0 [] si nm ar wr fl du cu es br tm
  | .inr ts => match fdS tx si 0 with
    | some k => PM h m (.int (Int32.ofNat k)) 0 [] si nm ar wr fl du cu es br tm
    | none => if si.length = 40 then PM h m (.int (Int32.ofNat 0)) 1 [] si nm ar wr fl du cu es br tm else PM h m (.int (Int32.ofNat si.length)) 0 [] (si ++ [ts]) nm ar wr fl du cu es br tm
theorem M_site (X : MM h m tx si nm ar wr fl du cu es br tm) : Wp 195 0 [.ref m, .null, .null, .null, .null, .null] [] h (PMS h m tx si nm ar wr fl du cu es br tm) := by
  obtain ⟨X0, X1, X2, X3, X4, X5, X6, X7, X8⟩ := X
  have h200 := X1.2.1
  have h40 := X2.2.1
  have X0' : MS (sI_ h m 0 (Int32.ofNat 0)) m := X0.fz (Fz.rfl'.sI (S := fun a i => a = m ∧ i = 0) ⟨rfl, rfl⟩)
  have X1' : MT (sI_ h m 0 (Int32.ofNat 0)) m tx := X1.fz (Fz.rfl'.sI (S := fun a i => a = m ∧ i = 0) ⟨rfl, rfl⟩) (by intro a i z w; omega)
  have e1 : gI_ (sI_ h m 0 (Int32.ofNat 0)) m 1 = Int32.ofNat tx.length := X1'.1
  have f0 : Fz (fun a i => a = m ∧ (i = 0 ∨ i = 1)) h (sI_ (sI_ h m 0 (Int32.ofNat 0)) m 1 (Int32.ofNat 0)) := (Fz.rfl'.sI ⟨rfl, Or.inl rfl⟩).sI ⟨rfl, Or.inr rfl⟩
  have g0 : gI_ (sI_ (sI_ h m 0 (Int32.ofNat 0)) m 1 (Int32.ofNat 0)) m 0 = Int32.ofNat 0 := by rw [z_gI_sI, if_neg (by omega), z_gI_sI, if_pos ⟨rfl, rfl⟩]
  have g1 : gI_ (sI_ (sI_ h m 0 (Int32.ofNat 0)) m 1 (Int32.ofNat 0)) m 1 = Int32.ofNat 0 := by rw [z_gI_sI, if_pos ⟨rfl, rfl⟩]
  generalize hH : sI_ (sI_ h m 0 (Int32.ofNat 0)) m 1 (Int32.ofNat 0) = H at f0 g0 g1
  have Y0 := X0.fz f0
  have Y2 := X2.fz f0 (by intro a i z w; omega)
  have tt : ∀ i, i < tx.length → gI_ H (m + 1) i = Int32.ofNat (tx.getD i 0) := fun i hi => by rw [f0.gI (by omega), X1.2.2.1 i hi]
  have pm : ∀ r, PM h m r 0 [] si nm ar wr fl du cu es br tm (.inl r) H := fun r => ⟨rfl, g0, f0.mono (fun a i z => by omega), Y0, MT.nil f0 g1, Y2, X3.fz f0 (by intro a i z w; omega), X4.fz f0 (by intro a i z w; omega), X5.fz f0 (by intro a i z w; omega), X6.fz f0 (by intro a i z w; omega), X7.fz f0 (by intro a i z w; omega), X8.fz f0 (by intro a i z w; omega)⟩
  simp (disch := omega) only [U195_0, U195_1, U195_2, U195_5, U195_6, U195_9, U195_10, U195_11, U195_14, U195_15, U195_16, U195_17, X0.1, z_kd_sI, M_formatFault X0' X1', V159, e1, hH, i_add, i_mul, i_sub, i_addn, i_lt, i_eq, i_idx, i_vp, true_and, and_true, false_and, and_false, if_true, if_false, Nat.reduceAdd, Nat.reduceMul, Nat.reduceSub, Nat.reduceEqDiff, Option.some.injEq, exists_eq_left', true_or, or_true, false_or, or_false, not_true_eq_false, not_false_eq_true, eq_self, and_self, Nat.reduceLeDiff, decide_true, decide_false, ne_eq, Nat.left_eq_add, Nat.add_eq_left, Nat.add_left_cancel_iff, Nat.add_zero]
  unfold PMS
  cases hfm : fm tx 0 0 with
  | inl q =>
    have hq := fm_lt tx.length tx (Nat.le_refl _) 0 0 q hfm
    simp (disch := omega) only [U195_20, U195_21, U195_24, U195_25, U195_26, U195_27, ffI, show ¬ q < 0 by omega, i_lt, true_and, and_true, false_and, and_false, if_true, if_false, Nat.reduceAdd, Nat.reduceMul, Nat.reduceSub, Nat.reduceEqDiff, Option.some.injEq, exists_eq_left', true_or, or_true, false_or, or_false, not_true_eq_false, not_false_eq_true, eq_self, and_self, Nat.reduceLeDiff, decide_true, decide_false, ne_eq, Nat.left_eq_add, Nat.add_eq_left, Nat.add_left_cancel_iff, Nat.add_zero]
    exact pm _
  | inr ts =>
    obtain ⟨es1, es2⟩ := fm_ok tx.length tx (Nat.le_refl _) 0 0 ts hfm
    have hneg : -(Int32.ofNat 1) < Int32.ofNat 0 := by decide
    simp only
    simp (disch := omega) only [U195_20, U195_21, U195_24, U195_25, U195_26, U195_27, U195_28, U195_29, ffI, hneg, i_add, i_mul, i_sub, i_addn, i_lt, i_eq, i_idx, i_vp, true_and, and_true, false_and, and_false, if_true, if_false, Nat.reduceAdd, Nat.reduceMul, Nat.reduceSub, Nat.reduceEqDiff, Option.some.injEq, exists_eq_left', true_or, or_true, false_or, or_false, not_true_eq_false, not_false_eq_true, eq_self, and_self, Nat.reduceLeDiff, decide_true, decide_false, ne_eq, Nat.left_eq_add, Nat.add_eq_left, Nat.add_left_cancel_iff, Nat.add_zero]
    obtain ⟨lm1, lm2⟩ := fm_lim tx.length tx (Nat.le_refl _) 0 0 ts (by omega) (by omega) hfm
    -- one site's text against the text
    have inner : ∀ (sp : List Nat) (k : Nat) (Q : Rs_ → MH_ → Prop), k < 40 → sp.length ≤ 80 → (∀ i, i < sp.length → gI_ H (m + 3) (80 * k + i) = Int32.ofNat (sp.getD i 0)) → (∀ q ∈ sp, q < 256) → (∀ j, sp = tx → Wp 195 104 [.ref m, .int (-(Int32.ofNat 1)), .int (Int32.ofNat tx.length), .int (Int32.ofNat k), .int (Int32.ofNat 1), .int (Int32.ofNat j)] [] H Q) → (∀ j, ¬ sp = tx → Wp 195 104 [.ref m, .int (-(Int32.ofNat 1)), .int (Int32.ofNat tx.length), .int (Int32.ofNat k), .int (Int32.ofNat 0), .int (Int32.ofNat j)] [] H Q) → ∀ n j b, j + n = tx.length → (b = 0 ∨ b = 1) → (b = 1 → sp.length = tx.length ∧ ∀ i, i < j → sp.getD i 0 = tx.getD i 0) → (b = 0 → ¬ sp = tx) → Wp 195 58 [.ref m, .int (-(Int32.ofNat 1)), .int (Int32.ofNat tx.length), .int (Int32.ofNat k), .int (Int32.ofNat b), .int (Int32.ofNat j)] [] H Q := by
      intro sp k Q hk hsp hgs hs256 K1 K0 n
      induction n with
      | zero =>
        intro j b hj hb h1 h0
        rw [U195_58]
        rcases hb with rfl | rfl
        · simp (disch := omega) only [U195_60, U195_63, U195_65, U195_66, i_add, i_mul, i_sub, i_addn, i_lt, i_eq, i_idx, i_vp, true_and, and_true, false_and, and_false, if_true, if_false, Nat.reduceAdd, Nat.reduceMul, Nat.reduceSub, Nat.reduceEqDiff, Option.some.injEq, exists_eq_left', true_or, or_true, false_or, or_false, not_true_eq_false, not_false_eq_true, eq_self, and_self, Nat.reduceLeDiff, decide_true, decide_false, ne_eq, Nat.left_eq_add, Nat.add_eq_left, Nat.add_left_cancel_iff, Nat.add_zero]
          exact K0 j (h0 rfl)
        · simp (disch := omega) only [U195_60, U195_63, U195_65, U195_66, show ¬ j < tx.length by omega, show ¬ (1 : Nat) = 0 by omega, i_add, i_mul, i_sub, i_addn, i_lt, i_eq, i_idx, i_vp, true_and, and_true, false_and, and_false, if_true, if_false, Nat.reduceAdd, Nat.reduceMul, Nat.reduceSub, Nat.reduceEqDiff, Option.some.injEq, exists_eq_left', true_or, or_true, false_or, or_false, not_true_eq_false, not_false_eq_true, eq_self, and_self, Nat.reduceLeDiff, decide_true, decide_false, ne_eq, Nat.left_eq_add, Nat.add_eq_left, Nat.add_left_cancel_iff, Nat.add_zero]
          obtain ⟨l1, l2⟩ := h1 rfl
          refine K1 j (List.ext_getElem l1 (fun i z1 z2 => ?_))
          rw [← gD_in z1, ← gD_in z2]
          exact l2 i (by omega)
      | succ n ih =>
        intro j b hj hb h1 h0
        rw [U195_58]
        rcases hb with rfl | rfl
        · simp (disch := omega) only [U195_60, U195_63, U195_65, U195_66, i_add, i_mul, i_sub, i_addn, i_lt, i_eq, i_idx, i_vp, true_and, and_true, false_and, and_false, if_true, if_false, Nat.reduceAdd, Nat.reduceMul, Nat.reduceSub, Nat.reduceEqDiff, Option.some.injEq, exists_eq_left', true_or, or_true, false_or, or_false, not_true_eq_false, not_false_eq_true, eq_self, and_self, Nat.reduceLeDiff, decide_true, decide_false, ne_eq, Nat.left_eq_add, Nat.add_eq_left, Nat.add_left_cancel_iff, Nat.add_zero]
          exact K0 j (h0 rfl)
        · obtain ⟨l1, l2⟩ := h1 rfl
          have gs := hgs j (by omega)
          have gt := tt j (by omega)
          have b1 : sp.getD j 0 < 256 := gD_lt hs256 j
          have b2 : tx.getD j 0 < 256 := gD_lt X1.2.2.2 j
          by_cases he : sp.getD j 0 = tx.getD j 0
          · simp (disch := omega) only [U195_60, U195_63, U195_65, U195_66, U195_69, U195_70, U195_73, U195_75, U195_76, U195_77, U195_79, U195_80, U195_81, U195_82, U195_85, U195_87, U195_88, U195_91, U195_92, U195_95, U195_96, U195_98, U195_101, Y0.1, mp5 Y0, mp2 Y0, mk3 Y0, mn3 Y0, mk1 Y0, mn1 Y0, gs, gt, he, show j < tx.length by omega, show j < 200 by omega, show 80 * k + j < 3280 by omega, show ¬ (1 : Nat) = 0 by omega, i_add, i_mul, i_sub, i_addn, i_lt, i_eq, i_idx, i_vp, true_and, and_true, false_and, and_false, if_true, if_false, Nat.reduceAdd, Nat.reduceMul, Nat.reduceSub, Nat.reduceEqDiff, Option.some.injEq, exists_eq_left', true_or, or_true, false_or, or_false, not_true_eq_false, not_false_eq_true, eq_self, and_self, Nat.reduceLeDiff, decide_true, decide_false, ne_eq, Nat.left_eq_add, Nat.add_eq_left, Nat.add_left_cancel_iff, Nat.add_zero]
            exact ih (j + 1) 1 (by omega) (Or.inr rfl) (fun _ => ⟨l1, fun i hi => by
              by_cases hij : i = j
              · rw [hij]; exact he
              · exact l2 i (by omega)⟩) (fun z => by omega)
          · simp (disch := omega) only [U195_60, U195_63, U195_65, U195_66, U195_69, U195_70, U195_73, U195_75, U195_76, U195_77, U195_79, U195_80, U195_81, U195_82, U195_85, U195_87, U195_88, U195_91, U195_92, U195_95, U195_96, U195_98, U195_101, Y0.1, mp5 Y0, mp2 Y0, mk3 Y0, mn3 Y0, mk1 Y0, mn1 Y0, gs, gt, he, show j < tx.length by omega, show j < 200 by omega, show 80 * k + j < 3280 by omega, show ¬ (1 : Nat) = 0 by omega, i_add, i_mul, i_sub, i_addn, i_lt, i_eq, i_idx, i_vp, true_and, and_true, false_and, and_false, if_true, if_false, Nat.reduceAdd, Nat.reduceMul, Nat.reduceSub, Nat.reduceEqDiff, Option.some.injEq, exists_eq_left', true_or, or_true, false_or, or_false, not_true_eq_false, not_false_eq_true, eq_self, and_self, Nat.reduceLeDiff, decide_true, decide_false, ne_eq, Nat.left_eq_add, Nat.add_eq_left, Nat.add_left_cancel_iff, Nat.add_zero]
            exact ih (j + 1) 0 (by omega) (Or.inl rfl) (fun z => by omega) (fun _ z => he (by rw [z]))
    have sp256 : ∀ q ∈ spell ts, q < 256 := by rw [es1]; exact X1.2.2.2
    -- the new site's text is written
    have wri : ¬ si.length = 40 → ∀ n k h1 y1 y2, k + n = tx.length → Fz (fun a i => (a = m ∧ (i = 0 ∨ i = 1)) ∨ (a = m + 2 ∧ i = si.length) ∨ (a = m + 3 ∧ 80 * si.length ≤ i)) h h1 → gI_ h1 m 0 = Int32.ofNat 0 → gI_ h1 m 1 = Int32.ofNat 0 → gI_ h1 (m + 2) si.length = Int32.ofNat tx.length → Cp h1 (m + 3) (80 * si.length) tx k → Wp 195 156 [.ref m, .int (-(Int32.ofNat 1)), .int (Int32.ofNat tx.length), .int (Int32.ofNat k), y1, y2] [] h1 (PM h m (.int (Int32.ofNat si.length)) 0 [] (si ++ [ts]) nm ar wr fl du cu es br tm) := by
      intro hn40 n
      induction n with
      | zero =>
        intro k h1 y1 y2 hk f1 e0 e1 e2 cp
        obtain rfl : k = tx.length := by omega
        have ea : gI_ h1 m 3 = Int32.ofNat si.length := by rw [f1.gI (by omega), X2.1]
        rw [U195_156]
        simp (disch := omega) only [U195_0, U195_1, U195_2, U195_5, U195_6, U195_9, U195_10, U195_11, U195_14, U195_15, U195_16, U195_17, U195_20, U195_21, U195_24, U195_25, U195_26, U195_27, U195_28, U195_29, U195_31, U195_32, U195_35, U195_38, U195_39, U195_42, U195_43, U195_44, U195_45, U195_48, U195_49, U195_52, U195_53, U195_55, U195_56, U195_60, U195_63, U195_65, U195_66, U195_69, U195_70, U195_73, U195_75, U195_76, U195_77, U195_79, U195_80, U195_81, U195_82, U195_85, U195_87, U195_88, U195_91, U195_92, U195_95, U195_96, U195_98, U195_101, U195_104, U195_106, U195_109, U195_110, U195_111, U195_114, U195_117, U195_118, U195_119, U195_122, U195_124, U195_127, U195_128, U195_131, U195_132, U195_135, U195_136, U195_139, U195_142, U195_143, U195_144, U195_145, U195_148, U195_149, U195_152, U195_153, U195_154, U195_155, U195_157, U195_158, U195_161, U195_162, U195_165, U195_167, U195_168, U195_171, U195_172, U195_173, U195_174, U195_175, U195_178, U195_179, U195_180, U195_181, U195_184, U195_187, U195_188, U195_189, U195_192, U195_193, U195_194, U195_197, U195_198, U195_201, U195_202, U195_203, z_kd_sI, z_ln_sI, z_gI_sI, z_gJ_sI, z_gP_sI, z_nx_sI, z_rc_sI, z_rs_sI, z_em_sI, z_mi_sI, z_kd_sJ, z_ln_sJ, z_gI_sJ, z_gJ_sJ, z_gP_sJ, z_nx_sJ, z_rc_sJ, z_rs_sJ, z_em_sJ, z_mi_sJ, z_kd_sP, z_ln_sP, z_gI_sP, z_gJ_sP, z_gP_sP, z_nx_sP, z_rc_sP, z_rs_sP, z_em_sP, z_mi_sP, z_kd_nw, z_ln_nw, z_gI_nw, z_gJ_nw, z_gP_nw, z_nx_nw, z_rc_nw, z_rs_nw, z_em_nw, z_mi_nw, z_kd_cI, z_ln_cI, z_gI_cI, z_gJ_cI, z_gP_cI, z_nx_cI, z_rc_cI, z_rs_cI, z_em_cI, z_mi_cI, z_kd_cP, z_ln_cP, z_gI_cP, z_gJ_cP, z_gP_cP, z_nx_cP, z_rc_cP, z_rs_cP, z_em_cP, z_mi_cP, z_kd_wI, z_ln_wI, z_gI_wI, z_gJ_wI, z_gP_wI, z_nx_wI, z_rc_wI, z_rs_wI, z_em_wI, z_mi_wI, z_kd_wJ, z_ln_wJ, z_gI_wJ, z_gJ_wJ, z_gP_wJ, z_nx_wJ, z_rc_wJ, z_rs_wJ, z_em_wJ, z_mi_wJ, f1.kd, X0.1, ea, show ¬ tx.length < tx.length by omega, Nat.add_sub_cancel, i_add, i_mul, i_sub, i_addn, i_lt, i_eq, i_idx, i_vp, true_and, and_true, false_and, and_false, if_true, if_false, Nat.reduceAdd, Nat.reduceMul, Nat.reduceSub, Nat.reduceEqDiff, Option.some.injEq, exists_eq_left', true_or, or_true, false_or, or_false, not_true_eq_false, not_false_eq_true, eq_self, and_self, Nat.reduceLeDiff, decide_true, decide_false, ne_eq, Nat.left_eq_add, Nat.add_eq_left, Nat.add_left_cancel_iff, Nat.add_zero]
        have f2 : Fz (fun a i => a = m ∧ i = 3) h1 (sI_ h1 m 3 (Int32.ofNat (si.length + 1))) := Fz.rfl'.sI ⟨rfl, rfl⟩
        have f : Fz (fun a i => (a = m ∧ (i = 0 ∨ i = 1 ∨ i = 3)) ∨ (a = m + 2 ∧ i = si.length) ∨ (a = m + 3 ∧ 80 * si.length ≤ i)) h (sI_ h1 m 3 (Int32.ofNat (si.length + 1))) := (f1.mono (fun a i z => by omega)).trans (f2.mono (fun a i z => by omega))
        refine ⟨rfl, by rw [f2.gI (by omega), e0], f.mono (fun a i z => by omega), X0.fz f, MT.nil f (by rw [f2.gI (by omega), e1]), ⟨by rw [z_gI_sI, if_pos ⟨rfl, rfl⟩, List.length_append]; rfl, by rw [List.length_append, List.length_singleton]; omega, fun s ts' hs => ?_⟩, X3.fz f (by intro a i z w; omega), X4.fz f (by intro a i z w; omega), X5.fz f (by intro a i z w; omega), X6.fz f (by intro a i z w; omega), X7.fz f (by intro a i z w; omega), X8.fz f (by intro a i z w; omega)⟩
        by_cases hs2 : s < si.length
        · rw [List.getElem?_append_left hs2] at hs
          obtain ⟨a1, a2, a3, a4⟩ := X2.2.2 s ts' hs
          exact ⟨by rw [f.gI (by omega)]; exact a1, a2, fun i hi => by rw [f.gI (by omega)]; exact a3 i hi, a4⟩
        · have hs3 : s = si.length := by
            rcases Nat.lt_or_ge s (si.length + 1) with z | z
            · omega
            · rw [List.getElem?_eq_none (by rw [List.length_append, List.length_singleton]; omega)] at hs; cases hs
          subst hs3
          rw [List.getElem?_append_right (Nat.le_refl _), Nat.sub_self] at hs
          have := Option.some.inj hs
          subst this
          rw [es1]
          exact ⟨by rw [f2.gI (by omega)]; exact e2, by omega, fun i hi => by rw [f2.gI (by omega)]; exact cp i hi, es2, by omega⟩
      | succ n ih =>
        intro k h1 y1 y2 hk f1 e0 e1 e2 cp
        have ea : gI_ h1 m 3 = Int32.ofNat si.length := by rw [f1.gI (by omega), X2.1]
        have et : gI_ h1 (m + 1) k = Int32.ofNat (tx.getD k 0) := by rw [f1.gI (by omega), X1.2.2.1 k (by omega)]
        have Z0 := X0.fz f1
        rw [U195_156]
        simp (disch := omega) only [U195_0, U195_1, U195_2, U195_5, U195_6, U195_9, U195_10, U195_11, U195_14, U195_15, U195_16, U195_17, U195_20, U195_21, U195_24, U195_25, U195_26, U195_27, U195_28, U195_29, U195_31, U195_32, U195_35, U195_38, U195_39, U195_42, U195_43, U195_44, U195_45, U195_48, U195_49, U195_52, U195_53, U195_55, U195_56, U195_60, U195_63, U195_65, U195_66, U195_69, U195_70, U195_73, U195_75, U195_76, U195_77, U195_79, U195_80, U195_81, U195_82, U195_85, U195_87, U195_88, U195_91, U195_92, U195_95, U195_96, U195_98, U195_101, U195_104, U195_106, U195_109, U195_110, U195_111, U195_114, U195_117, U195_118, U195_119, U195_122, U195_124, U195_127, U195_128, U195_131, U195_132, U195_135, U195_136, U195_139, U195_142, U195_143, U195_144, U195_145, U195_148, U195_149, U195_152, U195_153, U195_154, U195_155, U195_157, U195_158, U195_161, U195_162, U195_165, U195_167, U195_168, U195_171, U195_172, U195_173, U195_174, U195_175, U195_178, U195_179, U195_180, U195_181, U195_184, U195_187, U195_188, U195_189, U195_192, U195_193, U195_194, U195_197, U195_198, U195_201, U195_202, U195_203, Z0.1, mp5 Z0, mp2 Z0, mk3 Z0, mn3 Z0, mk1 Z0, mn1 Z0, ea, et, show k < tx.length by omega, show k < 200 by omega, show 80 * si.length + k < 3280 by omega, i_add, i_mul, i_sub, i_addn, i_lt, i_eq, i_idx, i_vp, true_and, and_true, false_and, and_false, if_true, if_false, Nat.reduceAdd, Nat.reduceMul, Nat.reduceSub, Nat.reduceEqDiff, Option.some.injEq, exists_eq_left', true_or, or_true, false_or, or_false, not_true_eq_false, not_false_eq_true, eq_self, and_self, Nat.reduceLeDiff, decide_true, decide_false, ne_eq, Nat.left_eq_add, Nat.add_eq_left, Nat.add_left_cancel_iff, Nat.add_zero]
        refine ih (k + 1) _ _ _ (by omega) (f1.sI (Or.inr (Or.inr ⟨rfl, by omega⟩))) ?_ ?_ ?_ cp.step
        · rw [z_gI_sI, if_neg (by omega), e0]
        · rw [z_gI_sI, if_neg (by omega), e1]
        · rw [z_gI_sI, if_neg (by omega), e2]
    have key : ∀ n k y1 y2, k + n = si.length → Wp 195 30 [.ref m, .int (-(Int32.ofNat 1)), .int (Int32.ofNat tx.length), .int (Int32.ofNat k), y1, y2] [] H (match fdS tx (si.drop k) k with
        | some k => PM h m (.int (Int32.ofNat k)) 0 [] si nm ar wr fl du cu es br tm
        | none => if si.length = 40 then PM h m (.int (Int32.ofNat 0)) 1 [] si nm ar wr fl du cu es br tm else PM h m (.int (Int32.ofNat si.length)) 0 [] (si ++ [ts]) nm ar wr fl du cu es br tm) := by
      intro n
      induction n with
      | zero =>
        intro k y1 y2 hk
        obtain rfl : k = si.length := by omega
        rw [List.drop_of_length_le (by omega)]
        simp only [fdS]
        rw [U195_30]
        by_cases hn40 : si.length = 40
        · rw [if_pos hn40]
          simp (disch := omega) only [U195_31, U195_32, U195_35, U195_38, U195_39, U195_42, U195_43, U195_44, U195_45, U195_48, U195_49, U195_52, U195_53, U195_55, U195_56, U195_60, U195_63, U195_65, U195_66, U195_69, U195_70, U195_73, U195_75, U195_76, U195_77, U195_79, U195_80, U195_81, U195_82, U195_85, U195_87, U195_88, U195_91, U195_92, U195_95, U195_96, U195_98, U195_101, U195_104, U195_106, U195_109, U195_110, U195_111, U195_114, U195_117, U195_118, U195_119, U195_122, U195_124, U195_127, U195_128, U195_131, U195_132, U195_135, U195_136, U195_139, U195_142, U195_143, U195_144, U195_145, U195_148, U195_149, U195_152, U195_153, U195_154, z_kd_sI, z_ln_sI, z_gI_sI, z_gJ_sI, z_gP_sI, z_nx_sI, z_rc_sI, z_rs_sI, z_em_sI, z_mi_sI, z_kd_sJ, z_ln_sJ, z_gI_sJ, z_gJ_sJ, z_gP_sJ, z_nx_sJ, z_rc_sJ, z_rs_sJ, z_em_sJ, z_mi_sJ, z_kd_sP, z_ln_sP, z_gI_sP, z_gJ_sP, z_gP_sP, z_nx_sP, z_rc_sP, z_rs_sP, z_em_sP, z_mi_sP, z_kd_nw, z_ln_nw, z_gI_nw, z_gJ_nw, z_gP_nw, z_nx_nw, z_rc_nw, z_rs_nw, z_em_nw, z_mi_nw, z_kd_cI, z_ln_cI, z_gI_cI, z_gJ_cI, z_gP_cI, z_nx_cI, z_rc_cI, z_rs_cI, z_em_cI, z_mi_cI, z_kd_cP, z_ln_cP, z_gI_cP, z_gJ_cP, z_gP_cP, z_nx_cP, z_rc_cP, z_rs_cP, z_em_cP, z_mi_cP, z_kd_wI, z_ln_wI, z_gI_wI, z_gJ_wI, z_gP_wI, z_nx_wI, z_rc_wI, z_rs_wI, z_em_wI, z_mi_wI, z_kd_wJ, z_ln_wJ, z_gI_wJ, z_gJ_wJ, z_gP_wJ, z_nx_wJ, z_rc_wJ, z_rs_wJ, z_em_wJ, z_mi_wJ, Y0.1, Y2.1, hn40, show ¬ (40 : Nat) < 40 by omega, show (0 : Nat) < 1 by omega, Nat.reduceEqDiff, i_add, i_mul, i_sub, i_addn, i_lt, i_eq, i_idx, i_vp, true_and, and_true, false_and, and_false, if_true, if_false, Nat.reduceAdd, Nat.reduceMul, Nat.reduceSub, Nat.reduceEqDiff, Option.some.injEq, exists_eq_left', true_or, or_true, false_or, or_false, not_true_eq_false, not_false_eq_true, eq_self, and_self, Nat.reduceLeDiff, decide_true, decide_false, ne_eq, Nat.left_eq_add, Nat.add_eq_left, Nat.add_left_cancel_iff, Nat.add_zero]
          have f2 : Fz (fun a i => a = m ∧ i = 0) H (sI_ H m 0 (Int32.ofNat 1)) := Fz.rfl'.sI ⟨rfl, rfl⟩
          have f : Fz (fun a i => a = m ∧ (i = 0 ∨ i = 1)) h (sI_ H m 0 (Int32.ofNat 1)) := f0.trans (f2.mono (fun a i z => by omega))
          exact ⟨rfl, by rw [z_gI_sI, if_pos ⟨rfl, rfl⟩], f.mono (fun a i z => by omega), X0.fz f, MT.nil f (by rw [f2.gI (by omega), g1]), X2.fz f (by intro a i z w; omega), X3.fz f (by intro a i z w; omega), X4.fz f (by intro a i z w; omega), X5.fz f (by intro a i z w; omega), X6.fz f (by intro a i z w; omega), X7.fz f (by intro a i z w; omega), X8.fz f (by intro a i z w; omega)⟩
        · rw [if_neg hn40]
          simp (disch := omega) only [U195_31, U195_32, U195_35, U195_38, U195_39, U195_42, U195_43, U195_44, U195_45, U195_48, U195_49, U195_52, U195_53, U195_55, U195_56, U195_60, U195_63, U195_65, U195_66, U195_69, U195_70, U195_73, U195_75, U195_76, U195_77, U195_79, U195_80, U195_81, U195_82, U195_85, U195_87, U195_88, U195_91, U195_92, U195_95, U195_96, U195_98, U195_101, U195_104, U195_106, U195_109, U195_110, U195_111, U195_114, U195_117, U195_118, U195_119, U195_122, U195_124, U195_127, U195_128, U195_131, U195_132, U195_135, U195_136, U195_139, U195_142, U195_143, U195_144, U195_145, U195_148, U195_149, U195_152, U195_153, U195_154, U195_155, z_kd_sI, z_ln_sI, z_gI_sI, z_gJ_sI, z_gP_sI, z_nx_sI, z_rc_sI, z_rs_sI, z_em_sI, z_mi_sI, z_kd_sJ, z_ln_sJ, z_gI_sJ, z_gJ_sJ, z_gP_sJ, z_nx_sJ, z_rc_sJ, z_rs_sJ, z_em_sJ, z_mi_sJ, z_kd_sP, z_ln_sP, z_gI_sP, z_gJ_sP, z_gP_sP, z_nx_sP, z_rc_sP, z_rs_sP, z_em_sP, z_mi_sP, z_kd_nw, z_ln_nw, z_gI_nw, z_gJ_nw, z_gP_nw, z_nx_nw, z_rc_nw, z_rs_nw, z_em_nw, z_mi_nw, z_kd_cI, z_ln_cI, z_gI_cI, z_gJ_cI, z_gP_cI, z_nx_cI, z_rc_cI, z_rs_cI, z_em_cI, z_mi_cI, z_kd_cP, z_ln_cP, z_gI_cP, z_gJ_cP, z_gP_cP, z_nx_cP, z_rc_cP, z_rs_cP, z_em_cP, z_mi_cP, z_kd_wI, z_ln_wI, z_gI_wI, z_gJ_wI, z_gP_wI, z_nx_wI, z_rc_wI, z_rs_wI, z_em_wI, z_mi_wI, z_kd_wJ, z_ln_wJ, z_gI_wJ, z_gJ_wJ, z_gP_wJ, z_nx_wJ, z_rc_wJ, z_rs_wJ, z_em_wJ, z_mi_wJ, Y0.1, Y2.1, mp4 Y0, mk2 Y0, mn2 Y0, hn40, show ¬ si.length < si.length by omega, show si.length < 41 by omega, show ¬ (0 : Nat) < 0 by omega, Nat.reduceEqDiff, i_add, i_mul, i_sub, i_addn, i_lt, i_eq, i_idx, i_vp, true_and, and_true, false_and, and_false, if_true, if_false, Nat.reduceAdd, Nat.reduceMul, Nat.reduceSub, Nat.reduceEqDiff, Option.some.injEq, exists_eq_left', true_or, or_true, false_or, or_false, not_true_eq_false, not_false_eq_true, eq_self, and_self, Nat.reduceLeDiff, decide_true, decide_false, ne_eq, Nat.left_eq_add, Nat.add_eq_left, Nat.add_left_cancel_iff, Nat.add_zero]
          refine wri hn40 tx.length 0 _ _ _ (by omega) (((f0.mono (fun a i z => by omega)).sI (a := m) (j := 0) (Or.inl ⟨rfl, Or.inl rfl⟩)).sI (Or.inr (Or.inl ⟨rfl, rfl⟩))) ?_ ?_ ?_ (fun j hj => absurd hj (Nat.not_lt_zero _))
          · rw [z_gI_sI, if_neg (by omega), z_gI_sI, if_pos ⟨rfl, rfl⟩]
          · rw [z_gI_sI, if_neg (by omega), z_gI_sI, if_neg (by omega), g1]
          · rw [z_gI_sI, if_pos ⟨rfl, rfl⟩]
      | succ n ih =>
        intro k y1 y2 hk
        have hks : k < si.length := by omega
        obtain ⟨a1, a2, a3, a4, a5⟩ := Y2.2.2 k si[k] (List.getElem?_eq_getElem hks)
        rw [List.drop_eq_getElem_cons hks]
        simp only [fdS]
        have a256 : ∀ q ∈ spell si[k], q < 256 := by
          intro q hq
          unfold spell at hq
          obtain ⟨t, ht, hq⟩ := List.mem_flatMap.mp hq
          have := a4 t ht
          cases t with
          | inl b =>
            simp only [sp1] at hq
            have hsb : sg b := this
            unfold sg at hsb
            split at hq
            · simp at hq; omega
            · simp at hq; omega
          | inr z =>
            obtain ⟨u, v⟩ := z
            simp only [sp1] at hq
            simp only [okT] at this
            split at hq
            · simp at hq; omega
            · simp at hq; omega
        have K1 : ∀ j, spell si[k] = tx → Wp 195 104 [.ref m, .int (-(Int32.ofNat 1)), .int (Int32.ofNat tx.length), .int (Int32.ofNat k), .int (Int32.ofNat 1), .int (Int32.ofNat j)] [] H (match if spell si[k] = tx then some k else fdS tx (si.drop (k + 1)) (k + 1) with
            | some k => PM h m (.int (Int32.ofNat k)) 0 [] si nm ar wr fl du cu es br tm
            | none => if si.length = 40 then PM h m (.int (Int32.ofNat 0)) 1 [] si nm ar wr fl du cu es br tm else PM h m (.int (Int32.ofNat si.length)) 0 [] (si ++ [ts]) nm ar wr fl du cu es br tm) := by
          intro j z
          rw [if_pos z]
          simp (disch := omega) only [U195_104, U195_106, U195_109, U195_110, U195_111, U195_114, show ¬ (1 : Nat) = 0 by omega, i_add, i_mul, i_sub, i_addn, i_lt, i_eq, i_idx, i_vp, true_and, and_true, false_and, and_false, if_true, if_false, Nat.reduceAdd, Nat.reduceMul, Nat.reduceSub, Nat.reduceEqDiff, Option.some.injEq, exists_eq_left', true_or, or_true, false_or, or_false, not_true_eq_false, not_false_eq_true, eq_self, and_self, Nat.reduceLeDiff, decide_true, decide_false, ne_eq, Nat.left_eq_add, Nat.add_eq_left, Nat.add_left_cancel_iff, Nat.add_zero]
          exact pm _
        have K0 : ∀ j, ¬ spell si[k] = tx → Wp 195 104 [.ref m, .int (-(Int32.ofNat 1)), .int (Int32.ofNat tx.length), .int (Int32.ofNat k), .int (Int32.ofNat 0), .int (Int32.ofNat j)] [] H (match if spell si[k] = tx then some k else fdS tx (si.drop (k + 1)) (k + 1) with
            | some k => PM h m (.int (Int32.ofNat k)) 0 [] si nm ar wr fl du cu es br tm
            | none => if si.length = 40 then PM h m (.int (Int32.ofNat 0)) 1 [] si nm ar wr fl du cu es br tm else PM h m (.int (Int32.ofNat si.length)) 0 [] (si ++ [ts]) nm ar wr fl du cu es br tm) := by
          intro j z
          rw [if_neg z]
          simp (disch := omega) only [U195_104, U195_106, U195_109, U195_110, U195_111, U195_114, i_add, i_mul, i_sub, i_addn, i_lt, i_eq, i_idx, i_vp, true_and, and_true, false_and, and_false, if_true, if_false, Nat.reduceAdd, Nat.reduceMul, Nat.reduceSub, Nat.reduceEqDiff, Option.some.injEq, exists_eq_left', true_or, or_true, false_or, or_false, not_true_eq_false, not_false_eq_true, eq_self, and_self, Nat.reduceLeDiff, decide_true, decide_false, ne_eq, Nat.left_eq_add, Nat.add_eq_left, Nat.add_left_cancel_iff, Nat.add_zero]
          exact ih (k + 1) _ _ (by omega)
        have I := inner (spell si[k]) k _ (by omega) a2 a3 a256 K1 K0
        rw [U195_30]
        by_cases hl : (spell si[k]).length = tx.length
        · have I1 := I tx.length 0 1 (by omega) (Or.inr rfl) (fun _ => ⟨hl, fun i hi => absurd hi (Nat.not_lt_zero _)⟩) (fun z => by omega)
          simp (disch := omega) only [U195_31, U195_32, U195_35, U195_38, U195_39, U195_42, U195_43, U195_44, U195_45, U195_48, U195_49, U195_52, U195_53, U195_55, U195_56, Y0.1, Y2.1, mp4 Y0, mk2 Y0, mn2 Y0, a1, hl, hks, show k < 41 by omega, i_add, i_mul, i_sub, i_addn, i_lt, i_eq, i_idx, i_vp, true_and, and_true, false_and, and_false, if_true, if_false, Nat.reduceAdd, Nat.reduceMul, Nat.reduceSub, Nat.reduceEqDiff, Option.some.injEq, exists_eq_left', true_or, or_true, false_or, or_false, not_true_eq_false, not_false_eq_true, eq_self, and_self, Nat.reduceLeDiff, decide_true, decide_false, ne_eq, Nat.left_eq_add, Nat.add_eq_left, Nat.add_left_cancel_iff, Nat.add_zero]
          exact I1
        · have I0 := I tx.length 0 0 (by omega) (Or.inl rfl) (fun z => by omega) (fun _ z => hl (by rw [z]))
          simp (disch := omega) only [U195_31, U195_32, U195_35, U195_38, U195_39, U195_42, U195_43, U195_44, U195_45, U195_48, U195_49, U195_52, U195_53, U195_55, U195_56, Y0.1, Y2.1, mp4 Y0, mk2 Y0, mn2 Y0, a1, hl, hks, show k < 41 by omega, i_add, i_mul, i_sub, i_addn, i_lt, i_eq, i_idx, i_vp, true_and, and_true, false_and, and_false, if_true, if_false, Nat.reduceAdd, Nat.reduceMul, Nat.reduceSub, Nat.reduceEqDiff, Option.some.injEq, exists_eq_left', true_or, or_true, false_or, or_false, not_true_eq_false, not_false_eq_true, eq_self, and_self, Nat.reduceLeDiff, decide_true, decide_false, ne_eq, Nat.left_eq_add, Nat.add_eq_left, Nat.add_left_cancel_iff, Nat.add_zero]
          exact I0
    exact key si.length 0 _ _ (by omega)
end
