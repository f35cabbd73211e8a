/-! ===== the model: comes ===== -/
section
variable {h h' : MH_} {m : Nat} {S : Nat → Nat → Prop} {tx : List Nat} {si : List (List Tok)} {nm : Nat → List Nat} {ar : List Arg} {wr : Nat → Wr} {fl : List Nat} {du : Nat} {cu : Bool} {es : List Ev} {br : Nat} {tm : List Tm}
theorem Mf.fz {l : List Nat} (K : Mf h m l) (f : Fz S h h') (hS : ∀ a i, SG m a i → ¬ S a i) : Mf h' m l := ⟨by rw [f.gI (hS _ _ (Or.inl ⟨rfl, rfl⟩))]; exact K.1, fun i hi => by rw [f.gI (hS _ _ (Or.inr rfl))]; exact K.2.1 i hi, K.2.2⟩
theorem Mk.fz {l : List Nat} (K : Mk h m l) (f : Fz S h h') (hS : ∀ a i, SK m a i → ¬ S a i) : Mk h' m l := ⟨by rw [f.gI (hS _ _ (Or.inl ⟨rfl, rfl⟩))]; exact K.1, fun i hi => by rw [f.gI (hS _ _ (Or.inr rfl))]; exact K.2 i hi⟩
theorem M_comes {w s t : Nat} {ts : List Tok} (X : MM h m tx si nm ar wr fl du cu es br tm) (h0 : gI_ h m 0 = Int32.ofNat 0) (hw : w < 4) (o : WB si (wr w)) (hs : si[s]? = some ts) (hf : fit ts ar = true) (ht : t < 9223372036854775808) (hla : (wr w).2.1 ≤ t) (hq : (wr w).1 ≠ [] → (pkP (wr w).1).2.2.1 = (wr w).2.1) (hd : fl.length % 256 = 0) : Wp 149 0 [.ref m, .int (Int32.ofNat w), .int (Int32.ofNat s), .long (Int64.ofNat t), .null] [] h (if (pkP (wrN (wr w) s t ar)).1.length ≤ 238 then PC h m 0 (pkP (wrN (wr w) s t ar)).1 tx si nm ar (wrS wr w (wrN (wr w) s t ar, t, (wr w).2.2)) fl du cu es br tm else if 6144 < fl.length + 256 then PC h m 4 [] tx si nm ar wr fl du cu es br tm else PC h m 0 (pkP [(s, t, ar)]).1 tx si nm ar (wrS wr w ([(s, t, ar)], t, (wr w).2.2 + 1)) (fl ++ bkW w (wr w)) du cu es br tm) := by
  have X' := X
  obtain ⟨X0, X1, X2, X3, X4, X5, X6, X7, X8⟩ := X
  have hl := X6.2.1
  have hdu := X6.2.2.2.2.2.1
  obtain ⟨w1, w2, w3, w4, w5⟩ := X5 w hw
  have o4 := o.2.2.2.1
  have two := pkP_two _ (wr w).1 rfl
  have h120 : (wr w).1.length < 120 := by omega
  obtain ⟨n1, n2, n3⟩ := o.add hs hf ht hla hq
  simp (disch := omega) only [U149_0, U149_1, U149_4, U149_5, U149_6, U149_8, U149_11, U149_12, U149_13, U149_14, U149_15, X0.1, mp12 X0, mk9 X0, mn9 X0, w1, hw, h120, i_add, i_mul, i_sub, i_addn, i_lt, i_eq, i_idx, i_vp, true_and, and_true, false_and, and_false, if_true, if_false, Nat.reduceAdd, Nat.reduceMul, Nat.reduceSub, Nat.reduceEqDiff, Option.some.injEq, exists_eq_left', true_or, or_true, false_or, or_false, not_true_eq_false, not_false_eq_true, eq_self, and_self, Nat.reduceLeDiff, decide_true, decide_false, ne_eq, Nat.left_eq_add, Nat.add_eq_left, Nat.add_left_cancel_iff, Nat.add_zero]
  refine Wp_use (M_addPending (s := s) (t := t) X0 X4 X5 hw h120) ?_
  rintro _ h1 ⟨rfl, W1, f1⟩
  have Y0 := X0.fz f1
  have Y2 := X2.fz f1 (by unfold SPd; intro a i z w; omega)
  have K1 := X6.mf.fz f1 (by unfold SG SPd; intro a i z w; omega)
  simp (disch := omega) only [V144, U149_18, U149_19, U149_20, Y0.1, i_add, i_mul, i_sub, i_addn, i_lt, i_eq, i_idx, i_vp, true_and, and_true, false_and, and_false, if_true, if_false, Nat.reduceAdd, Nat.reduceMul, Nat.reduceSub, Nat.reduceEqDiff, Option.some.injEq, exists_eq_left', true_or, or_true, false_or, or_false, not_true_eq_false, not_false_eq_true, eq_self, and_self, Nat.reduceLeDiff, decide_true, decide_false, ne_eq, Nat.left_eq_add, Nat.add_eq_left, Nat.add_left_cancel_iff, Nat.add_zero]
  refine Wp_use (M_packAll (l0 := []) Y0 Y2 W1 hw (by rw [wrS_at]; exact n1) (by rw [wrS_at]; exact n2) (by rw [wrS_at]; exact n3)) ?_
  rintro _ h2 ⟨rfl, k2, f2⟩
  rw [wrS_at] at k2
  have Z0 := Y0.fz f2
  have Z2 := Y2.fz f2 (by unfold SK; intro a i z w; omega)
  have W2 := W1.fz f2 SK_W
  have K2 := K1.fz f2 (by unfold SG SK; intro a i z w; omega)
  have f12 : Fz (SWr m) h h2 := (f1.mono (fun a i z => by unfold SPd at z; unfold SWr; omega)).trans (f2.mono (fun a i z => by unfold SK at z; unfold SWr; omega))
  have e0 : gI_ h2 m 0 = Int32.ofNat 0 := by rw [f2.gI (by unfold SK; omega), f1.gI (by unfold SPd; omega)]; exact h0
  have k2' : Mk h2 m (pkP (wrN (wr w) s t ar)).1 := k2
  have k21 := k2'.1
  have pl : (pkP (wrN (wr w) s t ar)).1.length < 2000 := by
    unfold wrN
    rw [pkP_snoc]
    have := pk1_le (q := pkP (wr w).1) (s := s) (t := t) X4.t16
    have := X4.2.1
    omega
  have hp1 : (pkP [(s, t, ar)]).1.length ≤ 238 := by
    have := pk1_le (q := ([], fun _ => Int32.ofNat 0, 0, true)) (s := s) (t := t) X4.t16
    have := X4.2.1
    have e : pkP [(s, t, ar)] = pk1 ([], fun _ => Int32.ofNat 0, 0, true) (s, t, ar) := rfl
    rw [e]
    simp only [List.length_nil] at *
    omega
  by_cases c1 : (pkP (wrN (wr w) s t ar)).1.length ≤ 238
  · rw [if_pos c1]
    have f3 : Fz (fun a i => a = m + 15 ∧ i = w) h2 (sJ_ h2 (m + 15) w (Int64.ofNat t)) := Fz.rfl'.sJ ⟨rfl, rfl⟩
    simp (disch := omega) only [V178, U149_23, U149_24, U149_27, U149_30, U149_33, U149_34, U149_37, U149_38, U149_39, U149_40, U149_41, U149_42, U149_43, U149_46, U149_47, U149_50, U149_51, U149_52, U149_53, Z0.1, k21, mp18 Z0, mk15 Z0, mn15 Z0, hw, show ¬ 238 < (pkP (wrN (wr w) s t ar)).1.length by omega, i_add, i_mul, i_sub, i_addn, i_lt, i_eq, i_idx, i_vp, true_and, and_true, false_and, and_false, if_true, if_false, Nat.reduceAdd, Nat.reduceMul, Nat.reduceSub, Nat.reduceEqDiff, Option.some.injEq, exists_eq_left', true_or, or_true, false_or, or_false, not_true_eq_false, not_false_eq_true, eq_self, and_self, Nat.reduceLeDiff, decide_true, decide_false, ne_eq, Nat.left_eq_add, Nat.add_eq_left, Nat.add_left_cancel_iff, Nat.add_zero]
    have W3 := W2.lat f3 (by rw [z_gJ_sJ, if_pos ⟨rfl, rfl⟩])
    rw [wrS_wrS, wrS_at] at W3
    have F : Fz (SWr m) h (sJ_ h2 (m + 15) w (Int64.ofNat t)) := f12.trans (f3.mono (fun a i z => by unfold SWr; omega))
    exact ⟨rfl, by rw [f3.gI (by omega)]; exact e0, fun _ => k2'.fz f3 (by unfold SK; intro a i z w; omega), F, X'.wf F W3 (K2.fz f3 (by unfold SG; intro a i z w; omega)) hl hdu⟩
  · rw [if_neg c1]
    obtain ⟨v1, v2, v3, v4, v5⟩ := W2 w hw
    rw [wrS_at] at v1
    have v1' : gI_ h2 (m + 9) w = Int32.ofNat ((wr w).1.length + 1) := by rw [v1, List.length_append]; rfl
    have f3 : Fz (fun a i => a = m + 9 ∧ i = w) h2 (sI_ h2 (m + 9) w (Int32.ofNat (wr w).1.length)) := Fz.rfl'.sI ⟨rfl, rfl⟩
    have W3 := W2.pop f3 (by rw [z_gI_sI, if_pos ⟨rfl, rfl⟩])
    have W3 : MW (sI_ h2 (m + 9) w (Int32.ofNat (wr w).1.length)) m wr := by
      have e : wrS wr w ((wr w).1, (wr w).2.1, (wr w).2.2) = wr := wrS_same
      rw [e] at W3
      exact W3
    have F3 : Fz (SWr m) h (sI_ h2 (m + 9) w (Int32.ofNat (wr w).1.length)) := f12.trans (f3.mono (fun a i z => by unfold SWr; omega))
    have K3 := K2.fz f3 (by unfold SG; intro a i z w; omega)
    have M3 := X'.wf F3 W3 K3 hl hdu
    simp (disch := omega) only [V178, U149_23, U149_24, U149_27, U149_30, U149_33, U149_34, U149_37, U149_38, U149_39, U149_40, U149_41, U149_42, U149_43, Z0.1, k21, mp12 Z0, mk9 Z0, mn9 Z0, v1', hw, show 238 < (pkP (wrN (wr w) s t ar)).1.length by omega, Nat.add_sub_cancel, i_add, i_mul, i_sub, i_addn, i_lt, i_eq, i_idx, i_vp, true_and, and_true, false_and, and_false, if_true, if_false, Nat.reduceAdd, Nat.reduceMul, Nat.reduceSub, Nat.reduceEqDiff, Option.some.injEq, exists_eq_left', true_or, or_true, false_or, or_false, not_true_eq_false, not_false_eq_true, eq_self, and_self, Nat.reduceLeDiff, decide_true, decide_false, ne_eq, Nat.left_eq_add, Nat.add_eq_left, Nat.add_left_cancel_iff, Nat.add_zero]
    generalize sI_ h2 (m + 9) w (Int32.ofNat (wr w).1.length) = h3 at *
    have V0 := M3.1
    by_cases c2 : 6144 < fl.length + 256
    · rw [if_pos c2]
      have c5 : fl.length = 6144 := by omega
      have K31 := K3.1
      rw [c5] at K31
      simp (disch := omega) only [U149_54, U149_55, U149_56, U149_59, U149_62, U149_65, U149_66, U149_69, U149_70, U149_73, U149_74, U149_77, U149_80, z_kd_sI, z_ln_sI, z_gI_sI, z_gJ_sI, z_gP_sI, z_nx_sI, z_rc_sI, z_rs_sI, z_em_sI, z_mi_sI, z_kd_sJ, z_ln_sJ, z_gI_sJ, z_gJ_sJ, z_gP_sJ, z_nx_sJ, z_rc_sJ, z_rs_sJ, z_em_sJ, z_mi_sJ, z_kd_sP, z_ln_sP, z_gI_sP, z_gJ_sP, z_gP_sP, z_nx_sP, z_rc_sP, z_rs_sP, z_em_sP, z_mi_sP, z_kd_nw, z_ln_nw, z_gI_nw, z_gJ_nw, z_gP_nw, z_nx_nw, z_rc_nw, z_rs_nw, z_em_nw, z_mi_nw, z_kd_cI, z_ln_cI, z_gI_cI, z_gJ_cI, z_gP_cI, z_nx_cI, z_rc_cI, z_rs_cI, z_em_cI, z_mi_cI, z_kd_cP, z_ln_cP, z_gI_cP, z_gJ_cP, z_gP_cP, z_nx_cP, z_rc_cP, z_rs_cP, z_em_cP, z_mi_cP, z_kd_wI, z_ln_wI, z_gI_wI, z_gJ_wI, z_gP_wI, z_nx_wI, z_rc_wI, z_rs_wI, z_em_wI, z_mi_wI, z_kd_wJ, z_ln_wJ, z_gI_wJ, z_gJ_wJ, z_gP_wJ, z_nx_wJ, z_rc_wJ, z_rs_wJ, z_em_wJ, z_mi_wJ, V0.1, K31, show (0 : Nat) < 4 by omega, i_add, i_mul, i_sub, i_addn, i_lt, i_eq, i_idx, i_vp, true_and, and_true, false_and, and_false, if_true, if_false, Nat.reduceAdd, Nat.reduceMul, Nat.reduceSub, Nat.reduceEqDiff, Option.some.injEq, exists_eq_left', true_or, or_true, false_or, or_false, not_true_eq_false, not_false_eq_true, eq_self, and_self, Nat.reduceLeDiff, decide_true, decide_false, ne_eq, Nat.left_eq_add, Nat.add_eq_left, Nat.add_left_cancel_iff, Nat.add_zero]
      obtain ⟨M4, e4, f4⟩ := M3.th (k := 4)
      exact ⟨rfl, e4, fun z => absurd z (by omega), F3.trans (f4.mono (fun a i z => by unfold SWr; omega)), M4⟩
    · rw [if_neg c2]
      obtain ⟨M4, e4, f4⟩ := M3.th (k := 0)
      have hne : (wr w).1 ≠ [] := by
        intro z
        apply c1
        unfold wrN
        rw [z]
        exact hp1
      have M4' := M4
      obtain ⟨Y0, Y1, Y2, Y3, Y4, Y5, Y6, Y7, Y8⟩ := M4
      simp (disch := omega) only [U149_54, U149_55, U149_56, U149_59, U149_62, U149_65, U149_66, U149_69, U149_70, U149_73, U149_74, U149_77, U149_80, U149_81, U149_82, U149_83, z_kd_sI, z_ln_sI, z_gI_sI, z_gJ_sI, z_gP_sI, z_nx_sI, z_rc_sI, z_rs_sI, z_em_sI, z_mi_sI, z_kd_sJ, z_ln_sJ, z_gI_sJ, z_gJ_sJ, z_gP_sJ, z_nx_sJ, z_rc_sJ, z_rs_sJ, z_em_sJ, z_mi_sJ, z_kd_sP, z_ln_sP, z_gI_sP, z_gJ_sP, z_gP_sP, z_nx_sP, z_rc_sP, z_rs_sP, z_em_sP, z_mi_sP, z_kd_nw, z_ln_nw, z_gI_nw, z_gJ_nw, z_gP_nw, z_nx_nw, z_rc_nw, z_rs_nw, z_em_nw, z_mi_nw, z_kd_cI, z_ln_cI, z_gI_cI, z_gJ_cI, z_gP_cI, z_nx_cI, z_rc_cI, z_rs_cI, z_em_cI, z_mi_cI, z_kd_cP, z_ln_cP, z_gI_cP, z_gJ_cP, z_gP_cP, z_nx_cP, z_rc_cP, z_rs_cP, z_em_cP, z_mi_cP, z_kd_wI, z_ln_wI, z_gI_wI, z_gJ_wI, z_gP_wI, z_nx_wI, z_rc_wI, z_rs_wI, z_em_wI, z_mi_wI, z_kd_wJ, z_ln_wJ, z_gI_wJ, z_gJ_wJ, z_gP_wJ, z_nx_wJ, z_rc_wJ, z_rs_wJ, z_em_wJ, z_mi_wJ, V0.1, K3.1, show ¬ fl.length = 6144 by omega, show ¬ (0 : Nat) < 0 by omega, i_add, i_mul, i_sub, i_addn, i_lt, i_eq, i_idx, i_vp, true_and, and_true, false_and, and_false, if_true, if_false, Nat.reduceAdd, Nat.reduceMul, Nat.reduceSub, Nat.reduceEqDiff, Option.some.injEq, exists_eq_left', true_or, or_true, false_or, or_false, not_true_eq_false, not_false_eq_true, eq_self, and_self, Nat.reduceLeDiff, decide_true, decide_false, ne_eq, Nat.left_eq_add, Nat.add_eq_left, Nat.add_left_cancel_iff, Nat.add_zero]
      refine Wp_use (M_write Y0 Y2 Y5 Y6.mf hw o.1 o.2.1 o.2.2.1 o4 hne o.2.2.2.2 (by omega)) ?_
      rintro _ h5 ⟨rfl, K5, n9, n16, f5⟩
      have f5' := f5.mono (T := fun a i => (a = m ∧ (i = 20 ∨ i = 22)) ∨ a = m + 17 ∨ a = m + 18 ∨ ((a = m + 9 ∨ a = m + 16) ∧ i = w)) (fun a i z => by unfold SK SG at z; omega)
      have W5 : MW h5 m (wrS wr w ([], (wr w).2.1, (wr w).2.2 + 1)) := Y5.nil (v := ([], (wr w).2.1, (wr w).2.2 + 1)) f5' (fun a i z => by omega) rfl n9 (by rw [f5'.gJ (by omega)]; exact (Y5 w hw).2.2.1) n16
      have R0 := Y0.fz f5'
      have R4 := Y4.fz f5' (by intro a i z w; omega)
      have R2 := Y2.fz f5' (by intro a i z w; omega)
      have e5 : gI_ h5 m 0 = Int32.ofNat 0 := by rw [f5'.gI (by omega)]; exact e4
      have bl := bkW_len (w := w) o4
      have len : (fl ++ bkW w (wr w)).length = fl.length + 256 := by rw [List.length_append, bl]
      simp (disch := omega) only [V208, U149_86, U149_87, U149_88, U149_89, U149_90, R0.1, i_add, i_mul, i_sub, i_addn, i_lt, i_eq, i_idx, i_vp, true_and, and_true, false_and, and_false, if_true, if_false, Nat.reduceAdd, Nat.reduceMul, Nat.reduceSub, Nat.reduceEqDiff, Option.some.injEq, exists_eq_left', true_or, or_true, false_or, or_false, not_true_eq_false, not_false_eq_true, eq_self, and_self, Nat.reduceLeDiff, decide_true, decide_false, ne_eq, Nat.left_eq_add, Nat.add_eq_left, Nat.add_left_cancel_iff, Nat.add_zero]
      refine Wp_use (M_addPending (s := s) (t := t) R0 R4 W5 hw (by rw [wrS_at]; show 0 < 120; omega)) ?_
      rintro _ h6 ⟨rfl, W6, f6⟩
      rw [wrS_wrS, wrS_at] at W6
      have W6 : MW h6 m (wrS wr w ([(s, t, ar)], (wr w).2.1, (wr w).2.2 + 1)) := W6
      have U0 := R0.fz f6
      have U2 := R2.fz f6 (by unfold SPd; intro a i z w; omega)
      have K6 := K5.fz f6 (by unfold SG SPd; intro a i z w; omega)
      simp (disch := omega) only [V144, U149_93, U149_94, U149_95, U0.1, i_add, i_mul, i_sub, i_addn, i_lt, i_eq, i_idx, i_vp, true_and, and_true, false_and, and_false, if_true, if_false, Nat.reduceAdd, Nat.reduceMul, Nat.reduceSub, Nat.reduceEqDiff, Option.some.injEq, exists_eq_left', true_or, or_true, false_or, or_false, not_true_eq_false, not_false_eq_true, eq_self, and_self, Nat.reduceLeDiff, decide_true, decide_false, ne_eq, Nat.left_eq_add, Nat.add_eq_left, Nat.add_left_cancel_iff, Nat.add_zero]
      refine Wp_use (M_packAll (l0 := []) U0 U2 W6 hw (by rw [wrS_at]; exact fun p hp => n1 p (List.mem_append_right _ hp)) (by rw [wrS_at]; intro e p r he hr; cases hr) (by rw [wrS_at]; intro e he; obtain rfl : e = 0 := (by simp at he; omega); rw [List.take_zero]; decide)) ?_
      rintro _ h7 ⟨rfl, k7, f7⟩
      rw [wrS_at] at k7
      have T0 := U0.fz f7
      have W7 := W6.fz f7 SK_W
      have K7 := K6.fz f7 (by unfold SG SK; intro a i z w; omega)
      have f8 : Fz (fun a i => a = m + 15 ∧ i = w) h7 (sJ_ h7 (m + 15) w (Int64.ofNat t)) := Fz.rfl'.sJ ⟨rfl, rfl⟩
      simp (disch := omega) only [V178, U149_98, U149_99, U149_102, U149_103, U149_104, U149_105, T0.1, mp18 T0, mk15 T0, mn15 T0, hw, i_add, i_mul, i_sub, i_addn, i_lt, i_eq, i_idx, i_vp, true_and, and_true, false_and, and_false, if_true, if_false, Nat.reduceAdd, Nat.reduceMul, Nat.reduceSub, Nat.reduceEqDiff, Option.some.injEq, exists_eq_left', true_or, or_true, false_or, or_false, not_true_eq_false, not_false_eq_true, eq_self, and_self, Nat.reduceLeDiff, decide_true, decide_false, ne_eq, Nat.left_eq_add, Nat.add_eq_left, Nat.add_left_cancel_iff, Nat.add_zero]
      have W8 := W7.lat f8 (by rw [z_gJ_sJ, if_pos ⟨rfl, rfl⟩])
      rw [wrS_wrS, wrS_at] at W8
      have G : Fz (SWr m) h3 (sJ_ h7 (m + 15) w (Int64.ofNat t)) := (((f4.mono (fun a i z => by unfold SWr; omega)).trans (f5'.mono (fun a i z => by unfold SWr; omega))).trans ((f6.mono (fun a i z => by unfold SPd at z; unfold SWr; omega)).trans (f7.mono (fun a i z => by unfold SK at z; unfold SWr; omega)))).trans (f8.mono (fun a i z => by unfold SWr; omega))
      exact ⟨rfl, by rw [f8.gI (by omega), f7.gI (by unfold SK; omega), f6.gI (by unfold SPd; omega)]; exact e5, fun _ => k7.fz f8 (by unfold SK; intro a i z w; omega), F3.trans G, M3.wf G W8 (K7.fz f8 (by unfold SG; intro a i z w; omega)) (by omega) (by omega)⟩
end
