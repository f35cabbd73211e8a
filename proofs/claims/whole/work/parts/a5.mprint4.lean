/-! ===== the model: printEvent ===== -/
theorem slts_ap : ∀ a b : List Tok, slts (a ++ b) = slts a ++ slts b
  | [], b => rfl
  | .inl x :: a, b => slts_ap a b
  | .inr q :: a, b => by show q :: slts (a ++ b) = q :: (slts a ++ slts b); rw [slts_ap a b]
section
variable {h h' : MH_} {m s e : Nat} {si : List (List Tok)} {ts : List Tok} {nm : Nat → List Nat}
theorem M_printEvent {br : Nat} {es : List Ev} {y : Ev} (X0 : MS h m) (X2 : MF h m si) (X3 : MN h m nm) (hM : M1 h m e y) (he : e < 2856) (hs : si[y.2.1]? = some ts) (hf : fit ts y.2.2.2 = true) : Wp 183 0 [.ref m, .int (Int32.ofNat e), .null, .null, .null, .null] [] h (fun w h' => w = .inl .null ∧ Mp h' m (prF nm y.2.2.2 ts 0) ∧ (prF nm y.2.2.2 ts 0).length ≤ 176 ∧ Fz (SJ m) h h') := by
  obtain ⟨a1, a2, a3, a4, a5⟩ := X2.2.2 y.2.1 ts hs
  have hs40 := (si_lt X2 hs).1
  obtain ⟨y1, y2, y3, y4, y5⟩ := hM
  have fle := fit_len hf
  generalize hS : y.2.1 = S at *
  generalize hA : y.2.2.2 = as at *
  have key : ∀ us pre h1 l1 z, ts = pre ++ us → Fz (SJ m) h h1 → Mp h1 m l1 → l1.length ≤ (spell pre).length + 16 * (slts pre).length → Wp 183 20 [.ref m, .int (Int32.ofNat e), .int (Int32.ofNat S), .int (Int32.ofNat (slts pre).length), .int (Int32.ofNat (80 * S + (spell pre).length)), z] [] h1 (fun w h' => w = .inl .null ∧ Mp h' m (l1 ++ prF nm as us (slts pre).length) ∧ (l1 ++ prF nm as us (slts pre).length).length ≤ 176 ∧ Fz (SJ m) h h') := by
    intro us
    induction us with
    | nil =>
      intro pre h1 l1 z hp f1 K1 hl1
      rw [List.append_nil] at hp
      subst hp
      have Y0 := X0.fz f1
      have Y2 := X2.fz f1 (by unfold SJ; intro a i z w; omega)
      rw [U183_20]
      simp (disch := omega) only [U183_22, U183_23, U183_24, U183_27, U183_129, Y0.1, M_end Y0 Y2 hs, V155, show ¬ 80 * S + (spell ts).length < 80 * S + (spell ts).length by omega, prF, List.append_nil, i_add, i_mul, i_sub, i_addn, i_lt, i_eq, i_idx, i_vp, true_and, and_true, false_and, and_false, if_true, if_false, Nat.reduceAdd, Nat.reduceMul, Nat.reduceSub, Nat.reduceEqDiff, Option.some.injEq, exists_eq_left', true_or, or_true, false_or, or_false, not_true_eq_false, not_false_eq_true, eq_self, and_self, Nat.reduceLeDiff, decide_true, decide_false, ne_eq, Nat.left_eq_add, Nat.add_eq_left, Nat.add_left_cancel_iff, Nat.add_zero]
      exact ⟨K1, by omega, f1⟩
    | cons t us ih =>
      intro pre h1 l1 z hp f1 K1 hl1
      have Y0 := X0.fz f1
      have Y2 := X2.fz f1 (by unfold SJ; intro a i z w; omega)
      have Y3 := X3.fz f1 (by unfold SJ; intro a i z w; omega)
      have hl := sp1_len t
      have hsp : spell ts = spell pre ++ (sp1 t ++ spell us) := by rw [hp, spell_app, spell_cons]
      have hlen : (spell ts).length = (spell pre).length + ((sp1 t).length + (spell us).length) := by rw [hsp, List.length_append, List.length_append]
      have hslt : (slts ts).length = (slts pre).length + (slts (t :: us)).length := by rw [hp, slts_ap, List.length_append]
      have hp2 : ts = (pre ++ [t]) ++ us := by rw [hp, List.append_assoc]; rfl
      have hsp2 : (spell (pre ++ [t])).length = (spell pre).length + (sp1 t).length := by rw [spell_app, List.length_append]; unfold spell; rw [List.flatMap_singleton]
      have e0 := (M_tok (Q := fun _ _ => True) Y0 Y2 hs hp).1
      have f256 := (M_tok (Q := fun _ _ => True) Y0 Y2 hs hp).2.1
      have sz : ∀ Q : Rs_ → MH_ → Prop, _ := fun Q => (M_tok (Q := Q) Y0 Y2 hs hp).2.2
      rw [U183_20]
      cases t with
      | inl b =>
        have hsl2 : (slts (pre ++ [.inl b])).length = (slts pre).length := by rw [slts_ap, List.length_append]; rfl
        have e0' : gI_ h1 (m + 3) (80 * S + (spell pre).length) = Int32.ofNat b := e0
        have b256 : b < 256 := f256
        -- behind the print
        have go : ∀ h3, Fz (SJ m) h h3 → Mp h3 m (l1 ++ [b]) → Wp 183 20 [.ref m, .int (Int32.ofNat e), .int (Int32.ofNat S), .int (Int32.ofNat (slts pre).length), .int (Int32.ofNat (80 * S + (spell pre).length + (sp1 (.inl b)).length)), .int (Int32.ofNat 0)] [] h3 (fun w h' => w = .inl .null ∧ Mp h' m (l1 ++ prF nm as (.inl b :: us) (slts pre).length) ∧ (l1 ++ prF nm as (.inl b :: us) (slts pre).length).length ≤ 176 ∧ Fz (SJ m) h h') := by
          intro h3 f3 K3
          have := ih (pre ++ [.inl b]) h3 (l1 ++ [b]) (.int (Int32.ofNat 0)) hp2 f3 K3 (by rw [List.length_append, List.length_singleton, hsp2, hsl2]; omega)
          rw [hsp2, hsl2, ← Nat.add_assoc, List.append_assoc] at this
          exact this
        simp (disch := omega) only [U183_22, U183_23, U183_24, U183_27, U183_30, U183_31, U183_34, U183_36, U183_37, U183_38, U183_41, U183_44, U183_46, U183_48, U183_51, U183_52, U183_54, U183_55, U183_56, U183_58, U183_59, U183_60, U183_61, U183_62, U183_65, U183_68, U183_70, U183_72, U183_73, U183_75, U183_78, U183_79, U183_80, U183_83, U183_85, U183_86, Y0.1, mp5 Y0, mk3 Y0, mn3 Y0, M_end Y0 Y2 hs, V155, show 80 * S + (spell pre).length < 80 * S + (spell ts).length by omega, sz, tkS, V200, e0', show 80 * S + (spell pre).length < 3280 by omega, show ¬ (0 : Nat) < 0 by omega, i_add, i_mul, i_sub, i_addn, i_lt, i_eq, i_idx, i_vp, true_and, and_true, false_and, and_false, if_true, if_false, Nat.reduceAdd, Nat.reduceMul, Nat.reduceSub, Nat.reduceEqDiff, Option.some.injEq, exists_eq_left', true_or, or_true, false_or, or_false, not_true_eq_false, not_false_eq_true, eq_self, and_self, Nat.reduceLeDiff, decide_true, decide_false, ne_eq, Nat.left_eq_add, Nat.add_eq_left, Nat.add_left_cancel_iff, Nat.add_zero]
        refine Wp_use (M_print Y0 K1 (by omega)) ?_
        rintro _ h3 ⟨rfl, K3, f3⟩
        have go := go h3 (f1.trans f3) K3
        have Z0 := Y0.fz f3
        have e0'' : gI_ h3 (m + 3) (80 * S + (spell pre).length) = Int32.ofNat b := by rw [f3.gI (by unfold SJ; omega)]; exact e0'
        by_cases hb1 : b = 123
        · subst hb1
          rw [show (sp1 (.inl 123)).length = 2 from rfl] at go
          simp (disch := omega) only [V181, U183_89, U183_90, U183_93, U183_95, U183_96, U183_98, U183_101, U183_102, U183_105, U183_107, U183_108, U183_110, U183_113, U183_115, U183_116, U183_117, U183_120, U183_122, U183_123, U183_124, U183_126, Z0.1, mp5 Z0, mk3 Z0, mn3 Z0, e0'', show 80 * S + (spell pre).length < 3280 by omega, i_add, i_mul, i_sub, i_addn, i_lt, i_eq, i_idx, i_vp, true_and, and_true, false_and, and_false, if_true, if_false, Nat.reduceAdd, Nat.reduceMul, Nat.reduceSub, Nat.reduceEqDiff, Option.some.injEq, exists_eq_left', true_or, or_true, false_or, or_false, not_true_eq_false, not_false_eq_true, eq_self, and_self, Nat.reduceLeDiff, decide_true, decide_false, ne_eq, Nat.left_eq_add, Nat.add_eq_left, Nat.add_left_cancel_iff, Nat.add_zero]
          exact go
        · by_cases hb2 : b = 125
          · subst hb2
            rw [show (sp1 (.inl 125)).length = 2 from rfl] at go
            simp (disch := omega) only [V181, U183_89, U183_90, U183_93, U183_95, U183_96, U183_98, U183_101, U183_102, U183_105, U183_107, U183_108, U183_110, U183_113, U183_115, U183_116, U183_117, U183_120, U183_122, U183_123, U183_124, U183_126, Z0.1, mp5 Z0, mk3 Z0, mn3 Z0, e0'', show 80 * S + (spell pre).length < 3280 by omega, Nat.reduceEqDiff, i_add, i_mul, i_sub, i_addn, i_lt, i_eq, i_idx, i_vp, true_and, and_true, false_and, and_false, if_true, if_false, Nat.reduceAdd, Nat.reduceMul, Nat.reduceSub, Nat.reduceEqDiff, Option.some.injEq, exists_eq_left', true_or, or_true, false_or, or_false, not_true_eq_false, not_false_eq_true, eq_self, and_self, Nat.reduceLeDiff, decide_true, decide_false, ne_eq, Nat.left_eq_add, Nat.add_eq_left, Nat.add_left_cancel_iff, Nat.add_zero]
            exact go
          · have e1 : (sp1 (.inl b)).length = 1 := by simp only [sp1]; rw [if_neg (by omega)]; rfl
            rw [e1] at go
            simp (disch := omega) only [V181, U183_89, U183_90, U183_93, U183_95, U183_96, U183_98, U183_101, U183_102, U183_105, U183_107, U183_108, U183_110, U183_113, U183_115, U183_116, U183_117, U183_120, U183_122, U183_123, U183_124, U183_126, Z0.1, mp5 Z0, mk3 Z0, mn3 Z0, e0'', hb1, hb2, show 80 * S + (spell pre).length < 3280 by omega, Nat.reduceEqDiff, i_add, i_mul, i_sub, i_addn, i_lt, i_eq, i_idx, i_vp, true_and, and_true, false_and, and_false, if_true, if_false, Nat.reduceAdd, Nat.reduceMul, Nat.reduceSub, Nat.reduceEqDiff, Option.some.injEq, exists_eq_left', true_or, or_true, false_or, or_false, not_true_eq_false, not_false_eq_true, eq_self, and_self, Nat.reduceLeDiff, decide_true, decide_false, ne_eq, Nat.left_eq_add, Nat.add_eq_left, Nat.add_left_cancel_iff, Nat.add_zero]
            exact go
      | inr q =>
        obtain ⟨k, d⟩ := q
        have tk : tkS (.inr (k, d)) = (sp1 (.inr (k, d))).length := rfl
        have hsl2 : (slts (pre ++ [.inr (k, d)])).length = (slts pre).length + 1 := by rw [slts_ap, List.length_append]; rfl
        have hn : (slts pre).length < as.length := by rw [fle, hslt, slts_cr]; omega
        have okk : okT (.inr (k, d)) := a4 _ (by rw [hp]; exact List.mem_append_right _ List.mem_cons_self)
        have okk' : (k = 102 ∧ 1 ≤ d ∧ d ≤ 6) ∨ (k = 101 ∧ d ≤ 7) ∨ ((k = 100 ∨ k = 117 ∨ k = 120 ∨ k = 116) ∧ d = 0) := okk
        have hkd : kdS ts (slts pre).length = k := by
          unfold kdS
          rw [hp, slts_ap, List.getElem?_append_right (Nat.le_refl _), Nat.sub_self]
          rfl
        have hg := List.getElem?_eq_getElem hn
        obtain ⟨v1, v2⟩ := y5 _ _ hg
        have gd : as.getD (slts pre).length (.inl (Int32.ofNat 0)) = as[(slts pre).length] := by rw [List.getD_eq_getElem?_getD, hg]; rfl
        have ht : k = 116 → ∃ t, as[(slts pre).length] = .inr t := by
          intro hk
          cases hc : as[(slts pre).length] with
          | inl x =>
            have i1 := (fit_at hf (j := (slts pre).length) (by omega)).mp ((isN_at hn).mpr ⟨x, by rw [hg, hc]⟩)
            exact absurd (hkd.trans hk) i1
          | inr t => exact ⟨t, rfl⟩
        generalize as[(slts pre).length] = a at *
        have ln16 : (slT nm k d a).length ≤ 16 := slT_len (by omega) (fun q hq => (X3 q hq).2.1) (fun t ht => (v2 t ht).1)
        have g2 : (sp1 (.inr (k, d))).length = if k = 102 ∨ k = 101 then 4 else 3 := by simp only [sp1]; split <;> rfl
        have hl3 : 3 ≤ (sp1 (.inr (k, d))).length := by rw [g2]; split <;> omega
        have e1 : gI_ h1 (m + 3) (80 * S + (spell pre).length + 1) = Int32.ofNat k := by
          rw [f1.gI (by unfold SJ; omega), Nat.add_assoc, a3 _ (by omega), hsp, gD_app' (by omega), Nat.add_sub_cancel_left, gD_app (by omega)]
          simp only [sp1]
          split <;> rfl
        have e2 : k = 102 ∨ k = 101 → gI_ h1 (m + 3) (80 * S + (spell pre).length + 1 + 1) = Int32.ofNat (48 + d) := by
          intro hk
          rw [if_pos hk] at g2
          rw [f1.gI (by unfold SJ; omega), show 80 * S + (spell pre).length + 1 + 1 = 80 * S + ((spell pre).length + 2) by omega, a3 _ (by omega), hsp, gD_app' (by omega), Nat.add_sub_cancel_left, gD_app (by omega)]
          simp only [sp1]
          rw [if_pos hk]
          rfl
        generalize hL : (sp1 (.inr (k, d))).length = L at *
        simp (disch := omega) only [U183_22, U183_23, U183_24, U183_27, U183_30, U183_31, U183_34, U183_36, U183_37, U183_38, U183_41, U183_44, U183_46, U183_48, U183_51, U183_52, U183_54, U183_55, U183_56, U183_58, U183_59, U183_60, U183_61, U183_62, Y0.1, mp5 Y0, M_end Y0 Y2 hs, V155, show 80 * S + (spell pre).length < 80 * S + (spell ts).length by omega, sz, tk, V200, show 0 < L by omega, i_add, i_mul, i_sub, i_addn, i_lt, i_eq, i_idx, i_vp, true_and, and_true, false_and, and_false, if_true, if_false, Nat.reduceAdd, Nat.reduceMul, Nat.reduceSub, Nat.reduceEqDiff, Option.some.injEq, exists_eq_left', true_or, or_true, false_or, or_false, not_true_eq_false, not_false_eq_true, eq_self, and_self, Nat.reduceLeDiff, decide_true, decide_false, ne_eq, Nat.left_eq_add, Nat.add_eq_left, Nat.add_left_cancel_iff, Nat.add_zero]
        refine Wp_use (M_printSlot (k := k) (d := d) (a := a) Y0 Y3 K1 (by omega) (by omega) e1 (by omega) (by omega) (by omega) e2 (by rw [f1.gI (by unfold SJ; omega)]; exact v1) ht (fun t ht => ?_) (by omega)) ?_
        · obtain ⟨t1, ⟨p, p1, p2, p3⟩, -⟩ := v2 t ht
          exact ⟨t1, p, by rw [f1.gI (by unfold SJ; omega)]; exact p1, p2, fun j hj => by rw [f1.gI (by unfold SJ; omega)]; exact p3 j hj⟩
        · rintro _ h3 ⟨rfl, K3, f3⟩
          simp (disch := omega) only [V187, U183_65, U183_68, U183_70, U183_72, U183_73, U183_75, U183_126, i_add, i_mul, i_sub, i_addn, i_lt, i_eq, i_idx, i_vp, true_and, and_true, false_and, and_false, if_true, if_false, Nat.reduceAdd, Nat.reduceMul, Nat.reduceSub, Nat.reduceEqDiff, Option.some.injEq, exists_eq_left', true_or, or_true, false_or, or_false, not_true_eq_false, not_false_eq_true, eq_self, and_self, Nat.reduceLeDiff, decide_true, decide_false, ne_eq, Nat.left_eq_add, Nat.add_eq_left, Nat.add_left_cancel_iff, Nat.add_zero]
          have := ih (pre ++ [.inr (k, d)]) h3 _ (.int (Int32.ofNat L)) hp2 (f1.trans f3) K3 (by rw [List.length_append, hsp2, hsl2]; omega)
          rw [hsp2, hsl2, ← Nat.add_assoc, List.append_assoc] at this
          have ep : prF nm as (.inr (k, d) :: us) (slts pre).length = slT nm k d a ++ prF nm as us ((slts pre).length + 1) := by rw [← gd]; rfl
          rw [ep]
          exact this
  have f0 : Fz (SJ m) h (sI_ h m 41 (Int32.ofNat 0)) := Fz.rfl'.sI (Or.inl ⟨rfl, rfl⟩)
  have k0 := key ts [] (sI_ h m 41 (Int32.ofNat 0)) [] .null rfl f0 ⟨by rw [z_gI_sI, if_pos ⟨rfl, rfl⟩]; rfl, fun i hi => absurd hi (Nat.not_lt_zero _)⟩ (Nat.zero_le _)
  rw [show (spell []).length = 0 from rfl, show (slts []).length = 0 from rfl, Nat.add_zero, List.nil_append] at k0
  simp (disch := omega) only [U183_0, U183_1, U183_2, U183_5, U183_6, U183_9, U183_10, U183_11, U183_12, U183_13, U183_14, U183_16, U183_17, U183_18, z_kd_sI, z_ln_sI, z_gI_sI, z_gJ_sI, z_gP_sI, z_nx_sI, z_rc_sI, z_rs_sI, z_em_sI, z_mi_sI, z_kd_sJ, z_ln_sJ, z_gI_sJ, z_gJ_sJ, z_gP_sJ, z_nx_sJ, z_rc_sJ, z_rs_sJ, z_em_sJ, z_mi_sJ, z_kd_sP, z_ln_sP, z_gI_sP, z_gJ_sP, z_gP_sP, z_nx_sP, z_rc_sP, z_rs_sP, z_em_sP, z_mi_sP, z_kd_nw, z_ln_nw, z_gI_nw, z_gJ_nw, z_gP_nw, z_nx_nw, z_rc_nw, z_rs_nw, z_em_nw, z_mi_nw, z_kd_cI, z_ln_cI, z_gI_cI, z_gJ_cI, z_gP_cI, z_nx_cI, z_rc_cI, z_rs_cI, z_em_cI, z_mi_cI, z_kd_cP, z_ln_cP, z_gI_cP, z_gJ_cP, z_gP_cP, z_nx_cP, z_rc_cP, z_rs_cP, z_em_cP, z_mi_cP, z_kd_wI, z_ln_wI, z_gI_wI, z_gJ_wI, z_gP_wI, z_nx_wI, z_rc_wI, z_rs_wI, z_em_wI, z_mi_wI, z_kd_wJ, z_ln_wJ, z_gI_wJ, z_gJ_wJ, z_gP_wJ, z_nx_wJ, z_rc_wJ, z_rs_wJ, z_em_wJ, z_mi_wJ, X0.1, mp28 X0, mk20 X0, mn20 X0, y1, show e < 2900 by omega, i_add, i_mul, i_sub, i_addn, i_lt, i_eq, i_idx, i_vp, true_and, and_true, false_and, and_false, if_true, if_false, Nat.reduceAdd, Nat.reduceMul, Nat.reduceSub, Nat.reduceEqDiff, Option.some.injEq, exists_eq_left', true_or, or_true, false_or, or_false, not_true_eq_false, not_false_eq_true, eq_self, and_self, Nat.reduceLeDiff, decide_true, decide_false, ne_eq, Nat.left_eq_add, Nat.add_eq_left, Nat.add_left_cancel_iff, Nat.add_zero]
  exact k0
end
