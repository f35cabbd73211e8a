/-! ===== the model reads: next, readVar, number ===== -/
theorem i_div {a b : Nat} (ha : a < 2147483648) (hb : b < 2147483648) : Int32.ofNat a / Int32.ofNat b = Int32.ofNat (a / b) := (Int32.ofNat_div (by omega) (by omega)).symm
theorem i_rem {a b : Nat} (ha : a < 2147483648) (hb : b < 2147483648) : Int32.ofNat a - Int32.ofNat a / Int32.ofNat b * Int32.ofNat b = Int32.ofNat (a % b) := by
  rw [i_div ha hb, i_mul, i_sub (Nat.div_mul_le_self a b)]
  congr 1
  have := Nat.div_add_mod a b
  rw [Nat.mul_comm] at this
  omega
/-- the copy of the file, and the end of the block that is read -/
def Mc (h : MH_) (m : Nat) (fl : List Nat) : Prop := (∀ i, i < fl.length → gI_ h (m + 19) i = Int32.ofNat (fl.getD i 0)) ∧ fl.length ≤ 6144 ∧ ∀ q ∈ fl, q < 256
def MO (h : MH_) (m e : Nat) (fl : List Nat) (o : Option (List Nat)) : Prop := Mc h m fl ∧ (e ≤ fl.length ∧ gI_ h m 44 = Int32.ofNat e) ∧ match o with
  | some r => ∃ p, p ≤ e ∧ gI_ h m 43 = Int32.ofNat p ∧ (fl.take e).drop p = r ∧ gI_ h m 45 = Int32.ofNat 1
  | none => gI_ h m 45 = Int32.ofNat 0
def SRd (m : Nat) : Nat → Nat → Prop := fun a i => a = m ∧ (i = 43 ∨ i = 45)
section
variable {h h' : MH_} {m e : Nat} {fl : List Nat} {o : Option (List Nat)} {S : Nat → Nat → Prop} {Q : Rs_ → MH_ → Prop}
theorem Mc.fz (K : Mc h m fl) (f : Fz S h h') (hS : ∀ i, ¬ S (m + 19) i) : Mc h' m fl := ⟨fun i hi => by rw [f.gI (hS i)]; exact K.1 i hi, K.2⟩
theorem MO.fz (K : MO h m e fl o) (f : Fz S h h') (hS : ∀ a i, a = m + 19 ∨ (a = m ∧ (i = 43 ∨ i = 44 ∨ i = 45)) → ¬ S a i) : MO h' m e fl o := by
  obtain ⟨k1, ⟨k2, k3⟩, k4⟩ := K
  refine ⟨k1.fz f (fun i => hS _ _ (Or.inl rfl)), ⟨k2, by rw [f.gI (hS _ _ (by omega))]; exact k3⟩, ?_⟩
  cases o with
  | none => exact (f.gI (hS _ _ (by omega))).trans k4
  | some r => obtain ⟨p, a, b, c, d⟩ := k4; exact ⟨p, a, by rw [f.gI (hS _ _ (by omega))]; exact b, c, by rw [f.gI (hS _ _ (by omega))]; exact d⟩
/-- it is broken from now on -/
theorem MO.bad (K : MO h m e fl o) : MO (sI_ h m 45 (Int32.ofNat 0)) m e fl none ∧ Fz (SRd m) h (sI_ h m 45 (Int32.ofNat 0)) := by
  have f : Fz (fun a i => a = m ∧ i = 45) h (sI_ h m 45 (Int32.ofNat 0)) := Fz.rfl'.sI ⟨rfl, rfl⟩
  obtain ⟨k1, ⟨k2, k3⟩, k4⟩ := K
  refine ⟨⟨k1.fz f (fun i z => by omega), ⟨k2, by rw [f.gI (by omega)]; exact k3⟩, ?_⟩, f.mono (fun a i z => ⟨z.1, Or.inr z.2⟩)⟩
  show gI_ (sI_ h m 45 (Int32.ofNat 0)) m 45 = Int32.ofNat 0
  rw [z_gI_sI, if_pos ⟨rfl, rfl⟩]
/-- any way to be broken, to be right -/
theorem MO.nn (K : MO h m e fl o) (f : Fz S h h') (hS : ∀ a i, a = m + 19 ∨ (a = m ∧ i = 44) → ¬ S a i) (h45 : gI_ h' m 45 = Int32.ofNat 0) : MO h' m e fl none := by
  obtain ⟨k1, ⟨k2, k3⟩, k4⟩ := K
  exact ⟨k1.fz f (fun i => hS _ _ (Or.inl rfl)), ⟨k2, by rw [f.gI (hS _ _ (by omega))]; exact k3⟩, h45⟩
theorem MO.mk {p : Nat} {r : List Nat} (K : MO h m e fl o) (f : Fz S h h') (hS : ∀ a i, a = m + 19 ∨ (a = m ∧ i = 44) → ¬ S a i) (hp : p ≤ e) (h43 : gI_ h' m 43 = Int32.ofNat p) (hr : (fl.take e).drop p = r) (h45 : gI_ h' m 45 = Int32.ofNat 1) : MO h' m e fl (some r) := by
  obtain ⟨k1, ⟨k2, k3⟩, k4⟩ := K
  exact ⟨k1.fz f (fun i => hS _ _ (Or.inl rfl)), ⟨k2, by rw [f.gI (hS _ _ (by omega))]; exact k3⟩, p, hp, h43, hr, h45⟩
/-- it is right, and stays so -/
theorem MO.same {r : List Nat} (K : MO h m e fl (some r)) : MO (sI_ h m 45 (Int32.ofNat 1)) m e fl (some r) ∧ Fz (SRd m) h (sI_ h m 45 (Int32.ofNat 1)) := by
  have f : Fz (fun a i => a = m ∧ i = 45) h (sI_ h m 45 (Int32.ofNat 1)) := Fz.rfl'.sI ⟨rfl, rfl⟩
  obtain ⟨k1, ⟨k2, k3⟩, p, a, b, c, d⟩ := K
  exact ⟨⟨k1.fz f (fun i z => by omega), ⟨k2, by rw [f.gI (by omega)]; exact k3⟩, p, a, by rw [f.gI (by omega)]; exact b, c, by rw [z_gI_sI, if_pos ⟨rfl, rfl⟩]⟩, f.mono (fun a i z => ⟨z.1, Or.inr z.2⟩)⟩
theorem MO.right (K : MO h m e fl o) : gI_ h m 45 = bz (o.isSome = true) := by
  cases o with
  | none => rw [← bz_f (by simp)]; exact K.2.2
  | some r => obtain ⟨p, a, b, c, d⟩ := K.2.2; rw [← bz_t (by simp)]; exact d
/-- the place goes on -/
theorem MO.on {p n : Nat} {r : List Nat} (K : MO h m e fl (some r)) (hp : gI_ h m 43 = Int32.ofNat p) (hpe : p ≤ e) (hr : (fl.take e).drop p = r) (hn : p + n ≤ e) : MO (sI_ h m 43 (Int32.ofNat (p + n))) m e fl (some (r.drop n)) ∧ Fz (SRd m) h (sI_ h m 43 (Int32.ofNat (p + n))) := by
  have f : Fz (fun a i => a = m ∧ i = 43) h (sI_ h m 43 (Int32.ofNat (p + n))) := Fz.rfl'.sI ⟨rfl, rfl⟩
  obtain ⟨k1, ⟨k2, k3⟩, p', a, b, c, d⟩ := K
  refine ⟨⟨k1.fz f (fun i z => by omega), ⟨k2, by rw [f.gI (by omega)]; exact k3⟩, p + n, hn, by rw [z_gI_sI, if_pos ⟨rfl, rfl⟩], ?_, by rw [f.gI (by omega)]; exact d⟩, f.mono (fun a i z => ⟨z.1, Or.inl z.2⟩)⟩
  rw [← hr, List.drop_drop]
theorem M_next (X0 : MS h m) (K : MO h m e fl o) : Wp 173 0 [.ref m] [] h (fun v h' => Fz (SRd m) h h' ∧ match ob o with
    | some (b, r) => v = .inl (.int (Int32.ofNat b)) ∧ b < 256 ∧ MO h' m e fl (some r)
    | none => v = .inl (.int (Int32.ofNat 0)) ∧ MO h' m e fl none) := by
  cases o with
  | none =>
    obtain ⟨q1, q2⟩ := K.bad
    have k4 : gI_ h m 45 = Int32.ofNat 0 := K.2.2
    simp (disch := omega) only [U173_0, U173_1, U173_2, U173_5, U173_8, U173_9, U173_12, U173_13, U173_16, U173_19, U173_20, U173_23, U173_24, U173_27, U173_28, U173_31, U173_34, U173_35, U173_36, U173_37, U173_38, U173_41, U173_42, U173_43, U173_46, U173_47, U173_50, U173_51, U173_54, U173_55, U173_56, U173_57, z_kd_sI, z_ln_sI, z_gI_sI, z_gJ_sI, z_gP_sI, z_nx_sI, z_rc_sI, z_rs_sI, z_em_sI, z_mi_sI, z_kd_sJ, z_ln_sJ, z_gI_sJ, z_gJ_sJ, z_gP_sJ, z_nx_sJ, z_rc_sJ, z_rs_sJ, z_em_sJ, z_mi_sJ, z_kd_sP, z_ln_sP, z_gI_sP, z_gJ_sP, z_gP_sP, z_nx_sP, z_rc_sP, z_rs_sP, z_em_sP, z_mi_sP, z_kd_nw, z_ln_nw, z_gI_nw, z_gJ_nw, z_gP_nw, z_nx_nw, z_rc_nw, z_rs_nw, z_em_nw, z_mi_nw, z_kd_cI, z_ln_cI, z_gI_cI, z_gJ_cI, z_gP_cI, z_nx_cI, z_rc_cI, z_rs_cI, z_em_cI, z_mi_cI, z_kd_cP, z_ln_cP, z_gI_cP, z_gJ_cP, z_gP_cP, z_nx_cP, z_rc_cP, z_rs_cP, z_em_cP, z_mi_cP, z_kd_wI, z_ln_wI, z_gI_wI, z_gJ_wI, z_gP_wI, z_nx_wI, z_rc_wI, z_rs_wI, z_em_wI, z_mi_wI, z_kd_wJ, z_ln_wJ, z_gI_wJ, z_gJ_wJ, z_gP_wJ, z_nx_wJ, z_rc_wJ, z_rs_wJ, z_em_wJ, z_mi_wJ, X0.1, k4, i_add, i_mul, i_sub, i_addn, i_lt, i_eq, i_idx, i_vp, true_and, and_true, false_and, and_false, if_true, if_false, Nat.reduceAdd, Nat.reduceMul, Nat.reduceSub, Nat.reduceEqDiff, Option.some.injEq, exists_eq_left', true_or, or_true, false_or, or_false, not_true_eq_false, not_false_eq_true, eq_self, and_self, Nat.reduceLeDiff, decide_true, decide_false, ne_eq, Nat.left_eq_add, Nat.add_eq_left, Nat.add_left_cancel_iff, Nat.add_zero]
    exact ⟨q2, q1⟩
  | some r =>
    have K' := K
    obtain ⟨k1, ⟨k2, k3⟩, p, hp, b, c, d⟩ := K
    have hl := k1.2.1
    have hlen : (fl.take e).length = e := by rw [List.length_take]; omega
    cases r with
    | nil =>
      obtain ⟨q1, q2⟩ := K'.bad
      have hpe : e ≤ p := by have := List.drop_eq_nil_iff.mp c; omega
      simp (disch := omega) only [U173_0, U173_1, U173_2, U173_5, U173_8, U173_9, U173_12, U173_13, U173_16, U173_19, U173_20, U173_23, U173_24, U173_27, U173_28, U173_31, U173_34, U173_35, U173_36, U173_37, U173_38, U173_41, U173_42, U173_43, U173_46, U173_47, U173_50, U173_51, U173_54, U173_55, U173_56, U173_57, z_kd_sI, z_ln_sI, z_gI_sI, z_gJ_sI, z_gP_sI, z_nx_sI, z_rc_sI, z_rs_sI, z_em_sI, z_mi_sI, z_kd_sJ, z_ln_sJ, z_gI_sJ, z_gJ_sJ, z_gP_sJ, z_nx_sJ, z_rc_sJ, z_rs_sJ, z_em_sJ, z_mi_sJ, z_kd_sP, z_ln_sP, z_gI_sP, z_gJ_sP, z_gP_sP, z_nx_sP, z_rc_sP, z_rs_sP, z_em_sP, z_mi_sP, z_kd_nw, z_ln_nw, z_gI_nw, z_gJ_nw, z_gP_nw, z_nx_nw, z_rc_nw, z_rs_nw, z_em_nw, z_mi_nw, z_kd_cI, z_ln_cI, z_gI_cI, z_gJ_cI, z_gP_cI, z_nx_cI, z_rc_cI, z_rs_cI, z_em_cI, z_mi_cI, z_kd_cP, z_ln_cP, z_gI_cP, z_gJ_cP, z_gP_cP, z_nx_cP, z_rc_cP, z_rs_cP, z_em_cP, z_mi_cP, z_kd_wI, z_ln_wI, z_gI_wI, z_gJ_wI, z_gP_wI, z_nx_wI, z_rc_wI, z_rs_wI, z_em_wI, z_mi_wI, z_kd_wJ, z_ln_wJ, z_gI_wJ, z_gJ_wJ, z_gP_wJ, z_nx_wJ, z_rc_wJ, z_rs_wJ, z_em_wJ, z_mi_wJ, X0.1, d, b, k3, show ¬ p < e by omega, show ¬ (1 : Nat) = 0 by omega, i_add, i_mul, i_sub, i_addn, i_lt, i_eq, i_idx, i_vp, true_and, and_true, false_and, and_false, if_true, if_false, Nat.reduceAdd, Nat.reduceMul, Nat.reduceSub, Nat.reduceEqDiff, Option.some.injEq, exists_eq_left', true_or, or_true, false_or, or_false, not_true_eq_false, not_false_eq_true, eq_self, and_self, Nat.reduceLeDiff, decide_true, decide_false, ne_eq, Nat.left_eq_add, Nat.add_eq_left, Nat.add_left_cancel_iff, Nat.add_zero]
      exact ⟨q2, q1⟩
    | cons x r =>
      obtain ⟨d1, d2, d3, d4⟩ := dr_cons c
      have ex : fl.getD p 0 = x := by rw [← d2, gD_in d1, gD_in (by omega), List.getElem_take]
      have hx : x < 256 := by rw [← ex]; exact gD_lt k1.2.2 p
      have g19 := k1.1 p (by omega)
      rw [ex] at g19
      obtain ⟨q1, q2⟩ := K'.same
      obtain ⟨q3, q4⟩ := q1.on (n := 1) (p := p) (by rw [z_gI_sI, if_neg (by omega)]; exact b) hp c (by omega)
      simp (disch := omega) only [U173_0, U173_1, U173_2, U173_5, U173_8, U173_9, U173_12, U173_13, U173_16, U173_19, U173_20, U173_23, U173_24, U173_27, U173_28, U173_31, U173_34, U173_35, U173_36, U173_37, U173_38, U173_41, U173_42, U173_43, U173_46, U173_47, U173_50, U173_51, U173_54, U173_55, U173_56, U173_57, z_kd_sI, z_ln_sI, z_gI_sI, z_gJ_sI, z_gP_sI, z_nx_sI, z_rc_sI, z_rs_sI, z_em_sI, z_mi_sI, z_kd_sJ, z_ln_sJ, z_gI_sJ, z_gJ_sJ, z_gP_sJ, z_nx_sJ, z_rc_sJ, z_rs_sJ, z_em_sJ, z_mi_sJ, z_kd_sP, z_ln_sP, z_gI_sP, z_gJ_sP, z_gP_sP, z_nx_sP, z_rc_sP, z_rs_sP, z_em_sP, z_mi_sP, z_kd_nw, z_ln_nw, z_gI_nw, z_gJ_nw, z_gP_nw, z_nx_nw, z_rc_nw, z_rs_nw, z_em_nw, z_mi_nw, z_kd_cI, z_ln_cI, z_gI_cI, z_gJ_cI, z_gP_cI, z_nx_cI, z_rc_cI, z_rs_cI, z_em_cI, z_mi_cI, z_kd_cP, z_ln_cP, z_gI_cP, z_gJ_cP, z_gP_cP, z_nx_cP, z_rc_cP, z_rs_cP, z_em_cP, z_mi_cP, z_kd_wI, z_ln_wI, z_gI_wI, z_gJ_wI, z_gP_wI, z_nx_wI, z_rc_wI, z_rs_wI, z_em_wI, z_mi_wI, z_kd_wJ, z_ln_wJ, z_gI_wJ, z_gJ_wJ, z_gP_wJ, z_nx_wJ, z_rc_wJ, z_rs_wJ, z_em_wJ, z_mi_wJ, X0.1, d, b, k3, mp26 X0, mk19 X0, mn19 X0, show p < e by omega, show ¬ (1 : Nat) = 0 by omega, show ¬ (43 : Nat) = 45 by omega, show ¬ (45 : Nat) = 43 by omega, Nat.add_sub_cancel, show ¬ m + 19 = m by omega, show p < 6144 by omega, g19, i_add, i_mul, i_sub, i_addn, i_lt, i_eq, i_idx, i_vp, true_and, and_true, false_and, and_false, if_true, if_false, Nat.reduceAdd, Nat.reduceMul, Nat.reduceSub, Nat.reduceEqDiff, Option.some.injEq, exists_eq_left', true_or, or_true, false_or, or_false, not_true_eq_false, not_false_eq_true, eq_self, and_self, Nat.reduceLeDiff, decide_true, decide_false, ne_eq, Nat.left_eq_add, Nat.add_eq_left, Nat.add_left_cancel_iff, Nat.add_zero]
      exact ⟨q2.trans q4, rfl, hx, q3⟩
/-- what a method that reads leaves -/
def PVm (h : MH_) (m e : Nat) (fl : List Nat) (res : Option (Nat × List Nat)) : Rs_ → MH_ → Prop := fun v h' => Fz (SRd m) h h' ∧ match res with
  | some (x, r) => v = .inl (.long (Int64.ofNat x)) ∧ MO h' m e fl (some r)
  | none => (∃ x, v = .inl (.long x)) ∧ MO h' m e fl none
theorem PVm.tr {h1 : MH_} {res : Option (Nat × List Nat)} (f : Fz (SRd m) h h1) : ∀ v h', PVm h1 m e fl res v h' → PVm h m e fl res v h' := fun _ _ z => ⟨f.trans z.1, z.2⟩
theorem M_readVar (X0 : MS h m) (K : MO h m e fl o) : Wp 192 0 [.ref m, .null, .null, .null, .null, .null, .null] [] h (PVm h m e fl (o.bind (rV 9 0 0))) := by
  have key : ∀ n k a x o u y h, k + n = 9 → MS h m → MO h m e fl o → (o ≠ none → x = Int64.ofNat a ∧ u = Int64.ofNat (2 ^ (7 * k))) → Wp 192 7 [.ref m, .long x, .null, .long u, .null, .int (Int32.ofNat k), y] [] h (PVm h m e fl (o.bind (rV n k a))) := by
    intro n
    induction n with
    | zero =>
      intro k a x o u y h hk Y0 K ha
      obtain ⟨q1, q2⟩ := K.bad
      rw [U192_7]
      simp (disch := omega) only [U192_0, U192_1, U192_2, U192_3, U192_4, U192_5, U192_9, U192_11, U192_14, U192_15, U192_18, U192_21, U192_22, U192_25, U192_27, U192_28, U192_30, U192_33, U192_34, U192_35, U192_36, U192_37, U192_38, U192_39, U192_41, U192_44, U192_47, U192_48, U192_49, U192_52, U192_55, U192_57, U192_60, U192_62, U192_65, U192_66, U192_69, U192_70, U192_73, U192_74, U192_75, U192_78, U192_79, U192_80, U192_81, U192_84, U192_87, U192_88, U192_89, U192_92, U192_93, z_kd_sI, z_ln_sI, z_gI_sI, z_gJ_sI, z_gP_sI, z_nx_sI, z_rc_sI, z_rs_sI, z_em_sI, z_mi_sI, z_kd_sJ, z_ln_sJ, z_gI_sJ, z_gJ_sJ, z_gP_sJ, z_nx_sJ, z_rc_sJ, z_rs_sJ, z_em_sJ, z_mi_sJ, z_kd_sP, z_ln_sP, z_gI_sP, z_gJ_sP, z_gP_sP, z_nx_sP, z_rc_sP, z_rs_sP, z_em_sP, z_mi_sP, z_kd_nw, z_ln_nw, z_gI_nw, z_gJ_nw, z_gP_nw, z_nx_nw, z_rc_nw, z_rs_nw, z_em_nw, z_mi_nw, z_kd_cI, z_ln_cI, z_gI_cI, z_gJ_cI, z_gP_cI, z_nx_cI, z_rc_cI, z_rs_cI, z_em_cI, z_mi_cI, z_kd_cP, z_ln_cP, z_gI_cP, z_gJ_cP, z_gP_cP, z_nx_cP, z_rc_cP, z_rs_cP, z_em_cP, z_mi_cP, z_kd_wI, z_ln_wI, z_gI_wI, z_gJ_wI, z_gP_wI, z_nx_wI, z_rc_wI, z_rs_wI, z_em_wI, z_mi_wI, z_kd_wJ, z_ln_wJ, z_gI_wJ, z_gJ_wJ, z_gP_wJ, z_nx_wJ, z_rc_wJ, z_rs_wJ, z_em_wJ, z_mi_wJ, Y0.1, show ¬ k < 9 by omega, i_add, i_mul, i_sub, i_addn, i_lt, i_eq, i_idx, i_vp, true_and, and_true, false_and, and_false, if_true, if_false, Nat.reduceAdd, Nat.reduceMul, Nat.reduceSub, Nat.reduceEqDiff, Option.some.injEq, exists_eq_left', true_or, or_true, false_or, or_false, not_true_eq_false, not_false_eq_true, eq_self, and_self, Nat.reduceLeDiff, decide_true, decide_false, ne_eq, Nat.left_eq_add, Nat.add_eq_left, Nat.add_left_cancel_iff, Nat.add_zero]
      rw [show o.bind (rV 0 k a) = none by cases o <;> rfl]
      exact ⟨q2, ⟨_, rfl⟩, q1⟩
    | succ n ih =>
      intro k a x o u y h hk Y0 K ha
      have ri := K.right
      rw [U192_7]
      cases o with
      | none =>
        obtain ⟨q1, q2⟩ := K.bad
        rw [← bz_f (by simp)] at ri
        simp (disch := omega) only [U192_0, U192_1, U192_2, U192_3, U192_4, U192_5, U192_9, U192_11, U192_14, U192_15, U192_18, U192_21, U192_22, U192_25, U192_27, U192_28, U192_30, U192_33, U192_34, U192_35, U192_36, U192_37, U192_38, U192_39, U192_41, U192_44, U192_47, U192_48, U192_49, U192_52, U192_55, U192_57, U192_60, U192_62, U192_65, U192_66, U192_69, U192_70, U192_73, U192_74, U192_75, U192_78, U192_79, U192_80, U192_81, U192_84, U192_87, U192_88, U192_89, U192_92, U192_93, z_kd_sI, z_ln_sI, z_gI_sI, z_gJ_sI, z_gP_sI, z_nx_sI, z_rc_sI, z_rs_sI, z_em_sI, z_mi_sI, z_kd_sJ, z_ln_sJ, z_gI_sJ, z_gJ_sJ, z_gP_sJ, z_nx_sJ, z_rc_sJ, z_rs_sJ, z_em_sJ, z_mi_sJ, z_kd_sP, z_ln_sP, z_gI_sP, z_gJ_sP, z_gP_sP, z_nx_sP, z_rc_sP, z_rs_sP, z_em_sP, z_mi_sP, z_kd_nw, z_ln_nw, z_gI_nw, z_gJ_nw, z_gP_nw, z_nx_nw, z_rc_nw, z_rs_nw, z_em_nw, z_mi_nw, z_kd_cI, z_ln_cI, z_gI_cI, z_gJ_cI, z_gP_cI, z_nx_cI, z_rc_cI, z_rs_cI, z_em_cI, z_mi_cI, z_kd_cP, z_ln_cP, z_gI_cP, z_gJ_cP, z_gP_cP, z_nx_cP, z_rc_cP, z_rs_cP, z_em_cP, z_mi_cP, z_kd_wI, z_ln_wI, z_gI_wI, z_gJ_wI, z_gP_wI, z_nx_wI, z_rc_wI, z_rs_wI, z_em_wI, z_mi_wI, z_kd_wJ, z_ln_wJ, z_gI_wJ, z_gJ_wJ, z_gP_wJ, z_nx_wJ, z_rc_wJ, z_rs_wJ, z_em_wJ, z_mi_wJ, Y0.1, show k < 9 by omega, ri, i_add, i_mul, i_sub, i_addn, i_lt, i_eq, i_idx, i_vp, true_and, and_true, false_and, and_false, if_true, if_false, Nat.reduceAdd, Nat.reduceMul, Nat.reduceSub, Nat.reduceEqDiff, Option.some.injEq, exists_eq_left', true_or, or_true, false_or, or_false, not_true_eq_false, not_false_eq_true, eq_self, and_self, Nat.reduceLeDiff, decide_true, decide_false, ne_eq, Nat.left_eq_add, Nat.add_eq_left, Nat.add_left_cancel_iff, Nat.add_zero]
        exact ⟨q2, ⟨_, rfl⟩, q1⟩
      | some r =>
        rw [← bz_t (by simp)] at ri
        obtain ⟨rfl, rfl⟩ := ha (by simp)
        simp (disch := omega) only [U192_9, U192_11, U192_14, U192_15, U192_18, U192_21, U192_22, Y0.1, show k < 9 by omega, ri, show ¬ (1 : Nat) = 0 by omega, i_add, i_mul, i_sub, i_addn, i_lt, i_eq, i_idx, i_vp, true_and, and_true, false_and, and_false, if_true, if_false, Nat.reduceAdd, Nat.reduceMul, Nat.reduceSub, Nat.reduceEqDiff, Option.some.injEq, exists_eq_left', true_or, or_true, false_or, or_false, not_true_eq_false, not_false_eq_true, eq_self, and_self, Nat.reduceLeDiff, decide_true, decide_false, ne_eq, Nat.left_eq_add, Nat.add_eq_left, Nat.add_left_cancel_iff, Nat.add_zero]
        refine Wp_use (M_next Y0 K) ?_
        rintro v h1 ⟨f1, z⟩
        have Y1 := Y0.fz f1
        cases r with
        | nil =>
          obtain ⟨rfl, K1⟩ := z
          have r1 : gI_ h1 m 45 = Int32.ofNat 0 := K1.2.2
          obtain ⟨q1, q2⟩ := K1.bad
          simp (disch := omega) only [V173, U192_25, U192_27, U192_28, U192_30, U192_33, U192_34, U192_35, U192_36, U192_37, U192_38, U192_39, U192_41, U192_44, U192_47, U192_48, U192_49, U192_52, U192_55, U192_57, U192_60, U192_62, U192_65, U192_66, U192_69, U192_70, U192_73, U192_74, z_kd_sI, z_ln_sI, z_gI_sI, z_gJ_sI, z_gP_sI, z_nx_sI, z_rc_sI, z_rs_sI, z_em_sI, z_mi_sI, z_kd_sJ, z_ln_sJ, z_gI_sJ, z_gJ_sJ, z_gP_sJ, z_nx_sJ, z_rc_sJ, z_rs_sJ, z_em_sJ, z_mi_sJ, z_kd_sP, z_ln_sP, z_gI_sP, z_gJ_sP, z_gP_sP, z_nx_sP, z_rc_sP, z_rs_sP, z_em_sP, z_mi_sP, z_kd_nw, z_ln_nw, z_gI_nw, z_gJ_nw, z_gP_nw, z_nx_nw, z_rc_nw, z_rs_nw, z_em_nw, z_mi_nw, z_kd_cI, z_ln_cI, z_gI_cI, z_gJ_cI, z_gP_cI, z_nx_cI, z_rc_cI, z_rs_cI, z_em_cI, z_mi_cI, z_kd_cP, z_ln_cP, z_gI_cP, z_gJ_cP, z_gP_cP, z_nx_cP, z_rc_cP, z_rs_cP, z_em_cP, z_mi_cP, z_kd_wI, z_ln_wI, z_gI_wI, z_gJ_wI, z_gP_wI, z_nx_wI, z_rc_wI, z_rs_wI, z_em_wI, z_mi_wI, z_kd_wJ, z_ln_wJ, z_gI_wJ, z_gJ_wJ, z_gP_wJ, z_nx_wJ, z_rc_wJ, z_rs_wJ, z_em_wJ, z_mi_wJ, Y1.1, r1, show (0 : Nat) < 128 by omega, show ¬ (128 : Nat) = 0 by omega, i_rem, i64, j_mul, j_add, i_add, i_mul, i_sub, i_addn, i_lt, i_eq, i_idx, i_vp, true_and, and_true, false_and, and_false, if_true, if_false, Nat.reduceAdd, Nat.reduceMul, Nat.reduceSub, Nat.reduceEqDiff, Option.some.injEq, exists_eq_left', true_or, or_true, false_or, or_false, not_true_eq_false, not_false_eq_true, eq_self, and_self, Nat.reduceLeDiff, decide_true, decide_false, ne_eq, Nat.left_eq_add, Nat.add_eq_left, Nat.add_left_cancel_iff, Nat.add_zero]
          exact ⟨f1.trans q2, ⟨_, rfl⟩, q1⟩
        | cons b r =>
          obtain ⟨rfl, hb, K1⟩ := z
          have r1 := K1.right
          rw [← bz_t (by simp)] at r1
          obtain ⟨q1, q2⟩ := K1.bad
          obtain ⟨q3, q4⟩ := K1.same
          rw [show (some (b :: r)).bind (rV (n + 1) k a) = rV (n + 1) k a (b :: r) from rfl]
          simp only [rV]
          by_cases h128 : b < 128
          · rw [if_pos h128]
            have em : b % 128 = b := Nat.mod_eq_of_lt h128
            by_cases h0 : b = 0 ∧ 0 < k
            · rw [if_pos h0]
              obtain ⟨rfl, hk0⟩ := h0
              simp (disch := omega) only [V173, U192_25, U192_27, U192_28, U192_30, U192_33, U192_34, U192_35, U192_36, U192_37, U192_38, U192_39, U192_41, U192_44, U192_47, U192_48, U192_49, U192_52, U192_55, U192_57, U192_60, U192_62, U192_65, U192_66, U192_69, U192_70, U192_73, U192_74, z_kd_sI, z_ln_sI, z_gI_sI, z_gJ_sI, z_gP_sI, z_nx_sI, z_rc_sI, z_rs_sI, z_em_sI, z_mi_sI, z_kd_sJ, z_ln_sJ, z_gI_sJ, z_gJ_sJ, z_gP_sJ, z_nx_sJ, z_rc_sJ, z_rs_sJ, z_em_sJ, z_mi_sJ, z_kd_sP, z_ln_sP, z_gI_sP, z_gJ_sP, z_gP_sP, z_nx_sP, z_rc_sP, z_rs_sP, z_em_sP, z_mi_sP, z_kd_nw, z_ln_nw, z_gI_nw, z_gJ_nw, z_gP_nw, z_nx_nw, z_rc_nw, z_rs_nw, z_em_nw, z_mi_nw, z_kd_cI, z_ln_cI, z_gI_cI, z_gJ_cI, z_gP_cI, z_nx_cI, z_rc_cI, z_rs_cI, z_em_cI, z_mi_cI, z_kd_cP, z_ln_cP, z_gI_cP, z_gJ_cP, z_gP_cP, z_nx_cP, z_rc_cP, z_rs_cP, z_em_cP, z_mi_cP, z_kd_wI, z_ln_wI, z_gI_wI, z_gJ_wI, z_gP_wI, z_nx_wI, z_rc_wI, z_rs_wI, z_em_wI, z_mi_wI, z_kd_wJ, z_ln_wJ, z_gI_wJ, z_gJ_wJ, z_gP_wJ, z_nx_wJ, z_rc_wJ, z_rs_wJ, z_em_wJ, z_mi_wJ, Y1.1, r1, show (0 : Nat) < 128 by omega, show ¬ (1 : Nat) = 0 by omega, show ¬ (0 : Nat) < 0 by omega, show ¬ k = 0 by omega, show ¬ (128 : Nat) = 0 by omega, i_rem, i64, j_mul, j_add, i_add, i_mul, i_sub, i_addn, i_lt, i_eq, i_idx, i_vp, true_and, and_true, false_and, and_false, if_true, if_false, Nat.reduceAdd, Nat.reduceMul, Nat.reduceSub, Nat.reduceEqDiff, Option.some.injEq, exists_eq_left', true_or, or_true, false_or, or_false, not_true_eq_false, not_false_eq_true, eq_self, and_self, Nat.reduceLeDiff, decide_true, decide_false, ne_eq, Nat.left_eq_add, Nat.add_eq_left, Nat.add_left_cancel_iff, Nat.add_zero]
              exact ⟨f1.trans q2, ⟨_, rfl⟩, q1⟩
            · rw [if_neg h0]
              by_cases hb0 : 0 < b
              · simp (disch := omega) only [V173, U192_25, U192_27, U192_28, U192_30, U192_33, U192_34, U192_35, U192_36, U192_37, U192_38, U192_39, U192_41, U192_44, U192_47, U192_48, U192_49, U192_52, U192_55, U192_57, U192_60, U192_62, U192_65, U192_66, U192_69, U192_70, U192_73, U192_74, z_kd_sI, z_ln_sI, z_gI_sI, z_gJ_sI, z_gP_sI, z_nx_sI, z_rc_sI, z_rs_sI, z_em_sI, z_mi_sI, z_kd_sJ, z_ln_sJ, z_gI_sJ, z_gJ_sJ, z_gP_sJ, z_nx_sJ, z_rc_sJ, z_rs_sJ, z_em_sJ, z_mi_sJ, z_kd_sP, z_ln_sP, z_gI_sP, z_gJ_sP, z_gP_sP, z_nx_sP, z_rc_sP, z_rs_sP, z_em_sP, z_mi_sP, z_kd_nw, z_ln_nw, z_gI_nw, z_gJ_nw, z_gP_nw, z_nx_nw, z_rc_nw, z_rs_nw, z_em_nw, z_mi_nw, z_kd_cI, z_ln_cI, z_gI_cI, z_gJ_cI, z_gP_cI, z_nx_cI, z_rc_cI, z_rs_cI, z_em_cI, z_mi_cI, z_kd_cP, z_ln_cP, z_gI_cP, z_gJ_cP, z_gP_cP, z_nx_cP, z_rc_cP, z_rs_cP, z_em_cP, z_mi_cP, z_kd_wI, z_ln_wI, z_gI_wI, z_gJ_wI, z_gP_wI, z_nx_wI, z_rc_wI, z_rs_wI, z_em_wI, z_mi_wI, z_kd_wJ, z_ln_wJ, z_gI_wJ, z_gJ_wJ, z_gP_wJ, z_nx_wJ, z_rc_wJ, z_rs_wJ, z_em_wJ, z_mi_wJ, Y1.1, r1, h128, hb0, em, show ¬ (1 : Nat) = 0 by omega, show ¬ (128 : Nat) = 0 by omega, i_rem, i64, j_mul, j_add, i_add, i_mul, i_sub, i_addn, i_lt, i_eq, i_idx, i_vp, true_and, and_true, false_and, and_false, if_true, if_false, Nat.reduceAdd, Nat.reduceMul, Nat.reduceSub, Nat.reduceEqDiff, Option.some.injEq, exists_eq_left', true_or, or_true, false_or, or_false, not_true_eq_false, not_false_eq_true, eq_self, and_self, Nat.reduceLeDiff, decide_true, decide_false, ne_eq, Nat.left_eq_add, Nat.add_eq_left, Nat.add_left_cancel_iff, Nat.add_zero]
                exact ⟨f1.trans q4, rfl, q3⟩
              · obtain rfl : b = 0 := by omega
                obtain rfl : k = 0 := by omega
                simp (disch := omega) only [V173, U192_25, U192_27, U192_28, U192_30, U192_33, U192_34, U192_35, U192_36, U192_37, U192_38, U192_39, U192_41, U192_44, U192_47, U192_48, U192_49, U192_52, U192_55, U192_57, U192_60, U192_62, U192_65, U192_66, U192_69, U192_70, U192_73, U192_74, z_kd_sI, z_ln_sI, z_gI_sI, z_gJ_sI, z_gP_sI, z_nx_sI, z_rc_sI, z_rs_sI, z_em_sI, z_mi_sI, z_kd_sJ, z_ln_sJ, z_gI_sJ, z_gJ_sJ, z_gP_sJ, z_nx_sJ, z_rc_sJ, z_rs_sJ, z_em_sJ, z_mi_sJ, z_kd_sP, z_ln_sP, z_gI_sP, z_gJ_sP, z_gP_sP, z_nx_sP, z_rc_sP, z_rs_sP, z_em_sP, z_mi_sP, z_kd_nw, z_ln_nw, z_gI_nw, z_gJ_nw, z_gP_nw, z_nx_nw, z_rc_nw, z_rs_nw, z_em_nw, z_mi_nw, z_kd_cI, z_ln_cI, z_gI_cI, z_gJ_cI, z_gP_cI, z_nx_cI, z_rc_cI, z_rs_cI, z_em_cI, z_mi_cI, z_kd_cP, z_ln_cP, z_gI_cP, z_gJ_cP, z_gP_cP, z_nx_cP, z_rc_cP, z_rs_cP, z_em_cP, z_mi_cP, z_kd_wI, z_ln_wI, z_gI_wI, z_gJ_wI, z_gP_wI, z_nx_wI, z_rc_wI, z_rs_wI, z_em_wI, z_mi_wI, z_kd_wJ, z_ln_wJ, z_gI_wJ, z_gJ_wJ, z_gP_wJ, z_nx_wJ, z_rc_wJ, z_rs_wJ, z_em_wJ, z_mi_wJ, Y1.1, r1, show (0 : Nat) < 128 by omega, show ¬ (0 : Nat) < 0 by omega, show ¬ (1 : Nat) = 0 by omega, show ¬ (128 : Nat) = 0 by omega, em, i_rem, i64, j_mul, j_add, i_add, i_mul, i_sub, i_addn, i_lt, i_eq, i_idx, i_vp, true_and, and_true, false_and, and_false, if_true, if_false, Nat.reduceAdd, Nat.reduceMul, Nat.reduceSub, Nat.reduceEqDiff, Option.some.injEq, exists_eq_left', true_or, or_true, false_or, or_false, not_true_eq_false, not_false_eq_true, eq_self, and_self, Nat.reduceLeDiff, decide_true, decide_false, ne_eq, Nat.left_eq_add, Nat.add_eq_left, Nat.add_left_cancel_iff, Nat.add_zero]
                exact ⟨f1.trans q4, rfl, q3⟩
          · rw [if_neg h128]
            simp (disch := omega) only [V173, U192_25, U192_27, U192_28, U192_30, U192_33, U192_34, U192_35, U192_36, U192_37, U192_38, U192_39, U192_41, U192_44, U192_47, U192_48, U192_49, U192_52, U192_55, U192_57, U192_60, U192_62, U192_65, U192_66, U192_69, U192_70, U192_73, U192_74, U192_75, U192_78, U192_79, U192_80, U192_81, U192_84, Y1.1, h128, show ¬ (128 : Nat) = 0 by omega, i_rem, i64, j_mul, j_add, i_add, i_mul, i_sub, i_addn, i_lt, i_eq, i_idx, i_vp, true_and, and_true, false_and, and_false, if_true, if_false, Nat.reduceAdd, Nat.reduceMul, Nat.reduceSub, Nat.reduceEqDiff, Option.some.injEq, exists_eq_left', true_or, or_true, false_or, or_false, not_true_eq_false, not_false_eq_true, eq_self, and_self, Nat.reduceLeDiff, decide_true, decide_false, ne_eq, Nat.left_eq_add, Nat.add_eq_left, Nat.add_left_cancel_iff, Nat.add_zero]
            refine Wp_use (ih (k + 1) (a + b % 128 * 2 ^ (7 * k)) _ (some r) _ _ h1 (by omega) Y1 K1 (fun _ => ⟨rfl, ?_⟩)) (PVm.tr f1)
            rw [show 7 * (k + 1) = 7 * k + 7 by omega, Nat.pow_add, Nat.mul_comm (2 ^ (7 * k))]
  simp (disch := omega) only [U192_0, U192_1, U192_2, U192_3, U192_4, U192_5, i_add, i_mul, i_sub, i_addn, i_lt, i_eq, i_idx, i_vp, true_and, and_true, false_and, and_false, if_true, if_false, Nat.reduceAdd, Nat.reduceMul, Nat.reduceSub, Nat.reduceEqDiff, Option.some.injEq, exists_eq_left', true_or, or_true, false_or, or_false, not_true_eq_false, not_false_eq_true, eq_self, and_self, Nat.reduceLeDiff, decide_true, decide_false, ne_eq, Nat.left_eq_add, Nat.add_eq_left, Nat.add_left_cancel_iff, Nat.add_zero]
  exact key 9 0 0 _ o _ _ h rfl X0 K (fun _ => ⟨rfl, rfl⟩)
theorem M_number {i n : Nat} (X0 : MS h m) (K : Mc h m fl) (hi : i + n ≤ fl.length) : Wp 174 0 [.ref m, .int (Int32.ofNat i), .int (Int32.ofNat n), .null, .null, .null] [] h Q ↔ Q (.inl (.long (bgF (fun k => fl.getD k 0) n i (Int64.ofNat 0)))) h := by
  have hl := K.2.1
  have key : ∀ j k x, k + j = i + n → (Wp 174 5 [.ref m, .int (Int32.ofNat i), .int (Int32.ofNat n), .long x, .null, .int (Int32.ofNat k)] [] h Q ↔ Q (.inl (.long (bgF (fun k => fl.getD k 0) j k x))) h) := by
    intro j
    induction j with
    | zero =>
      intro k x hk
      rw [U174_5]
      simp (disch := omega) only [U174_0, U174_1, U174_2, U174_3, U174_7, U174_8, U174_9, U174_10, U174_13, U174_16, U174_17, U174_18, U174_19, U174_22, U174_24, U174_25, U174_26, U174_27, U174_28, U174_31, U174_34, U174_35, show ¬ k < i + n by omega, bgF, i_add, i_mul, i_sub, i_addn, i_lt, i_eq, i_idx, i_vp, true_and, and_true, false_and, and_false, if_true, if_false, Nat.reduceAdd, Nat.reduceMul, Nat.reduceSub, Nat.reduceEqDiff, Option.some.injEq, exists_eq_left', true_or, or_true, false_or, or_false, not_true_eq_false, not_false_eq_true, eq_self, and_self, Nat.reduceLeDiff, decide_true, decide_false, ne_eq, Nat.left_eq_add, Nat.add_eq_left, Nat.add_left_cancel_iff, Nat.add_zero]
    | succ j ih =>
      intro k x hk
      have hb := gD_lt K.2.2 k
      rw [U174_5]
      simp (disch := omega) only [U174_0, U174_1, U174_2, U174_3, U174_7, U174_8, U174_9, U174_10, U174_13, U174_16, U174_17, U174_18, U174_19, U174_22, U174_24, U174_25, U174_26, U174_27, U174_28, U174_31, U174_34, U174_35, X0.1, mp26 X0, mk19 X0, mn19 X0, K.1 k (by omega), show k < i + n by omega, show k < 6144 by omega, i64, ih (k + 1), bgF, i_add, i_mul, i_sub, i_addn, i_lt, i_eq, i_idx, i_vp, true_and, and_true, false_and, and_false, if_true, if_false, Nat.reduceAdd, Nat.reduceMul, Nat.reduceSub, Nat.reduceEqDiff, Option.some.injEq, exists_eq_left', true_or, or_true, false_or, or_false, not_true_eq_false, not_false_eq_true, eq_self, and_self, Nat.reduceLeDiff, decide_true, decide_false, ne_eq, Nat.left_eq_add, Nat.add_eq_left, Nat.add_left_cancel_iff, Nat.add_zero]
  simp (disch := omega) only [U174_0, U174_1, U174_2, U174_3, i_add, i_mul, i_sub, i_addn, i_lt, i_eq, i_idx, i_vp, true_and, and_true, false_and, and_false, if_true, if_false, Nat.reduceAdd, Nat.reduceMul, Nat.reduceSub, Nat.reduceEqDiff, Option.some.injEq, exists_eq_left', true_or, or_true, false_or, or_false, not_true_eq_false, not_false_eq_true, eq_self, and_self, Nat.reduceLeDiff, decide_true, decide_false, ne_eq, Nat.left_eq_add, Nat.add_eq_left, Nat.add_left_cancel_iff, Nat.add_zero]
  exact key n i _ rfl
end
