/-! ===== reading: what both sides do; the unpacker's bytes ===== -/
def rV : Nat → Nat → Nat → List Nat → Option (Nat × List Nat)
  | 0, _, _, _ => none
  | _ + 1, _, _, [] => none
  | n + 1, k, a, b :: r => if b < 128 then (if b = 0 ∧ 0 < k then none else some (a + b * 2 ^ (7 * k), r)) else rV n (k + 1) (a + b % 128 * 2 ^ (7 * k)) r
theorem rV_lt : ∀ n k a r v r', k + n = 9 → a < 2 ^ (7 * k) → rV n k a r = some (v, r') → v < 9223372036854775808
  | 0, _, _, _, _, _ => by intro _ _ h; simp [rV] at h
  | _ + 1, _, _, [], _, _ => by intro _ _ h; simp [rV] at h
  | n + 1, k, a, b :: r, v, r' => by
    intro hk ha h
    have hp : 2 ^ (7 * (k + 1)) = 128 * 2 ^ (7 * k) := by rw [show 7 * (k + 1) = 7 * k + 7 by omega, Nat.pow_add, Nat.mul_comm]
    have hb : ∀ c, c < 128 → a + c * 2 ^ (7 * k) < 2 ^ (7 * (k + 1)) := by
      intro c hc
      have : c * 2 ^ (7 * k) ≤ 127 * 2 ^ (7 * k) := Nat.mul_le_mul_right _ (by omega)
      omega
    simp only [rV] at h
    split at h
    · rename_i h1
      split at h
      · cases h
      · have e := Option.some.inj h
        have e1 := congrArg Prod.fst e
        simp only at e1
        rw [← e1]
        have h2 : 2 ^ (7 * (k + 1)) ≤ 2 ^ 63 := Nat.pow_le_pow_right (by decide) (by omega)
        have := hb b h1
        omega
    · exact rV_lt n (k + 1) _ r v r' (by omega) (hb _ (Nat.mod_lt _ (by decide))) h
theorem rV_len : ∀ n k a r v r', rV n k a r = some (v, r') → r'.length < r.length
  | 0, _, _, _, _, _ => by intro h; simp [rV] at h
  | _ + 1, _, _, [], _, _ => by intro h; simp [rV] at h
  | n + 1, k, a, b :: r, v, r' => by
    intro h
    simp only [rV] at h
    split at h
    · split at h
      · cases h
      · have e := congrArg Prod.snd (Option.some.inj h)
        simp only at e
        rw [← e, List.length_cons]
        omega
    · have := rV_len n (k + 1) _ r v r' h
      rw [List.length_cons]
      omega
def rI : Nat → Int32 → List Nat → Option (Int32 × List Nat)
  | 0, x, r => some (x, r)
  | _ + 1, _, [] => none
  | n + 1, x, b :: r => rI n (Int32.ofNat 256 * x + Int32.ofNat b) r
def rN (la : Int32) : List Nat → Option (Int32 × List Nat)
  | [] => none
  | b :: r => if b = 0 then some (la, r) else if b = 255 then rI 4 (Int32.ofNat 0) r
    else if 4 ≤ b ∧ b ≤ 124 ∧ ¬ b = 64 then some (la + (Int32.ofNat b - Int32.ofNat 64), r) else none
def rT : List Nat → Option (List Nat × List Nat)
  | [] => none
  | b :: r => if b ≤ 16 ∧ b ≤ r.length then some (r.take b, r.drop b) else none
def Us (h : MH_) (u fr p e : Nat) (fl : List Nat) : Prop := (kd_ h u = 11 ∧ gP_ h u 0 = some (u + 1) ∧ gP_ h u 1 = some fr ∧ kd_ h (u + 1) = 30 ∧ ln_ h (u + 1) = 240) ∧ (gI_ h u 2 = Int32.ofNat p ∧ gI_ h u 3 = Int32.ofNat e) ∧ p ≤ e ∧ e ≤ fl.length ∧ Rw h fr 6144 fl ∧ (fr + 2 ≤ u ∨ u + 2 ≤ fr)
theorem Us.fz {S : Nat → Nat → Prop} {h h' : MH_} {u fr p e : Nat} {fl : List Nat} (hu : Us h u fr p e fl) (f : Fz S h h') (h2 : ¬ S u 2) (h3 : ¬ S u 3) (hr : ∀ a i, SR fr a i → ¬ S a i) : Us h' u fr p e fl := by
  obtain ⟨⟨a1, a2, a3, a4, a5⟩, ⟨b1, b2⟩, c1, c2, c3, c4⟩ := hu
  exact ⟨⟨by rw [f.kd, a1], by rw [f.gP, a2], by rw [f.gP, a3], by rw [f.kd, a4], by rw [f.ln, a5]⟩, ⟨by rw [f.gI h2, b1], by rw [f.gI h3, b2]⟩, c1, c2, c3.fz f hr, c4⟩
def SU (u : Nat) : Nat → Nat → Prop := fun a i => a = u ∧ (i = 2 ∨ i = 6)
def UO (h : MH_) (u fr e : Nat) (fl : List Nat) (o : Option (List Nat)) : Prop := ∃ p, Us h u fr p e fl ∧ match o with
  | some r => (fl.take e).drop p = r ∧ gI_ h u 6 = Int32.ofNat 1
  | none => gI_ h u 6 = Int32.ofNat 0
theorem UO.fz {S : Nat → Nat → Prop} {h h' : MH_} {u fr e : Nat} {fl : List Nat} {o : Option (List Nat)} (hu : UO h u fr e fl o) (f : Fz S h h') (h2 : ¬ S u 2) (h3 : ¬ S u 3) (h6 : ¬ S u 6) (hr : ∀ a i, SR fr a i → ¬ S a i) : UO h' u fr e fl o := by
  obtain ⟨p, hp, ho⟩ := hu
  refine ⟨p, hp.fz f h2 h3 hr, ?_⟩
  cases o with
  | some r => exact ⟨ho.1, by rw [f.gI h6]; exact ho.2⟩
  | none => exact (f.gI h6).trans ho
theorem SU_R {u fr : Nat} (h : fr + 2 ≤ u ∨ u + 2 ≤ fr) : ∀ a i, SR fr a i → ¬ SU u a i := by
  unfold SR SU
  intro a i h1 h2
  omega
theorem Us.bad {h : MH_} {u fr p e : Nat} {fl : List Nat} (hu : Us h u fr p e fl) : UO (sI_ h u 6 (Int32.ofNat 0)) u fr e fl none ∧ Fz (SU u) h (sI_ h u 6 (Int32.ofNat 0)) := by
  have ap := hu.2.2.2.2.2
  have f : Fz (fun a i => a = u ∧ i = 6) h (sI_ h u 6 (Int32.ofNat 0)) := Fz.rfl'.sI ⟨rfl, rfl⟩
  refine ⟨⟨p, hu.fz f (by omega) (by omega) (fun a i y z => by unfold SR at y; omega), ?_⟩, f.mono (fun a i z => ⟨z.1, Or.inr z.2⟩)⟩
  show gI_ (sI_ h u 6 (Int32.ofNat 0)) u 6 = Int32.ofNat 0
  rw [z_gI_sI, if_pos ⟨rfl, rfl⟩]
theorem Us.w {h : MH_} {u fr p e : Nat} {fl : List Nat} (hu : Us h u fr p e fl) (x : Int32) : Us (sI_ h u 6 x) u fr p e fl ∧ gI_ (sI_ h u 6 x) u 6 = x ∧ Fz (SU u) h (sI_ h u 6 x) := by
  have ap := hu.2.2.2.2.2
  have f : Fz (fun a i => a = u ∧ i = 6) h (sI_ h u 6 x) := Fz.rfl'.sI ⟨rfl, rfl⟩
  refine ⟨hu.fz f (by omega) (by omega) (fun a i y z => by unfold SR at y; omega), ?_, f.mono (fun a i z => ⟨z.1, Or.inr z.2⟩)⟩
  rw [z_gI_sI, if_pos ⟨rfl, rfl⟩]
def ob (o : Option (List Nat)) : Option (Nat × List Nat) := match o with
  | some (b :: r) => some (b, r)
  | _ => none
theorem takeB {h : MH_} {u fr e : Nat} {fl : List Nat} {o : Option (List Nat)} (hu : UO h u fr e fl o) : Wp 106 0 [.ref u, .null] [] h (fun v h' => Fz (SU u) h h' ∧ match ob o with
    | some (b, r) => v = .inl (.int (Int32.ofNat b)) ∧ b < 256 ∧ UO h' u fr e fl (some r)
    | none => (∃ b, b < 256 ∧ v = .inl (.int (Int32.ofNat b))) ∧ UO h' u fr e fl none) := by
  obtain ⟨p, hu, ho⟩ := hu
  have hu' := hu
  obtain ⟨⟨a1, a2, a3, a4, a5⟩, ⟨b1, b2⟩, c1, c2, c3, c4⟩ := hu
  have hc := c3.2.2.2.2.1
  have hl := c3.2.2.2.2.2.1
  have hlen : (fl.take e).length = e := by rw [List.length_take]; omega
  by_cases hp : p < e
  · have f : Fz (SU u) h (sI_ h u 2 (Int32.ofNat (p + 1))) := Fz.rfl'.sI ⟨rfl, Or.inl rfl⟩
    have u1 : Us (sI_ h u 2 (Int32.ofNat (p + 1))) u fr (p + 1) e fl := by
      refine ⟨⟨a1, a2, a3, a4, a5⟩, ⟨?_, ?_⟩, by omega, c2, c3.fz f (SU_R c4), c4⟩
      · rw [z_gI_sI, if_pos ⟨rfl, rfl⟩]
      · rw [z_gI_sI, if_neg (by omega), b2]
    have e6 : gI_ (sI_ h u 2 (Int32.ofNat (p + 1))) u 6 = gI_ h u 6 := by rw [z_gI_sI, if_neg (by omega)]
    simp (disch := omega) only [U106_0, U106_1, U106_4, U106_5, U106_8, U106_11, U106_12, U106_13, U106_16, U106_17, U106_18, U106_19, U106_22, U106_23, U106_26, U106_29, U106_30, U106_31, U106_32, U106_35, U106_36, U106_37, U106_40, U106_41, z_kd_sI, z_ln_sI, z_gI_sI, z_gJ_sI, z_gP_sI, z_nx_sI, z_rc_sI, z_rs_sI, z_em_sI, z_mi_sI, z_kd_sJ, z_ln_sJ, z_gI_sJ, z_gJ_sJ, z_gP_sJ, z_nx_sJ, z_rc_sJ, z_rs_sJ, z_em_sJ, z_mi_sJ, z_kd_sP, z_ln_sP, z_gI_sP, z_gJ_sP, z_gP_sP, z_nx_sP, z_rc_sP, z_rs_sP, z_em_sP, z_mi_sP, z_kd_nw, z_ln_nw, z_gI_nw, z_gJ_nw, z_gP_nw, z_nx_nw, z_rc_nw, z_rs_nw, z_em_nw, z_mi_nw, z_kd_cI, z_ln_cI, z_gI_cI, z_gJ_cI, z_gP_cI, z_nx_cI, z_rc_cI, z_rs_cI, z_em_cI, z_mi_cI, z_kd_cP, z_ln_cP, z_gI_cP, z_gJ_cP, z_gP_cP, z_nx_cP, z_rc_cP, z_rs_cP, z_em_cP, z_mi_cP, z_kd_wI, z_ln_wI, z_gI_wI, z_gJ_wI, z_gP_wI, z_nx_wI, z_rc_wI, z_rs_wI, z_em_wI, z_mi_wI, z_kd_wJ, z_ln_wJ, z_gI_wJ, z_gJ_wJ, z_gP_wJ, z_nx_wJ, z_rc_wJ, z_rs_wJ, z_em_wJ, z_mi_wJ, a1, a3, b1, b2, c3.1, Row_at c3, V85, hp, i_add, i_mul, i_sub, i_addn, i_lt, i_eq, i_idx, i_vp, true_and, and_true, false_and, and_false, if_true, if_false, Nat.reduceAdd, Nat.reduceMul, Nat.reduceSub, Nat.reduceEqDiff, Option.some.injEq, exists_eq_left', true_or, or_true, false_or, or_false, not_true_eq_false, not_false_eq_true, eq_self, and_self, Nat.reduceLeDiff, decide_true, decide_false, ne_eq, Nat.left_eq_add, Nat.add_eq_left, Nat.add_left_cancel_iff, Nat.add_zero]
    refine ⟨f, ?_⟩
    cases o with
    | none => exact ⟨⟨_, c3.lt p, rfl⟩, p + 1, u1, e6.trans ho⟩
    | some r =>
      cases r with
      | nil =>
        have := List.drop_eq_nil_iff.mp ho.1
        omega
      | cons b r =>
        obtain ⟨d1, d2, d3, d4⟩ := dr_cons ho.1
        have e1 : fl.getD p 0 = b := by
          rw [← d2, gD_in d1, gD_in (by omega), List.getElem_take]
        show _ = Sum.inl (Value.int (Int32.ofNat b)) ∧ b < 256 ∧ _
        refine ⟨by rw [e1], by rw [← e1]; exact c3.lt p, p + 1, u1, d3, e6.trans ho.2⟩
  · have q := hu'.bad
    simp (disch := omega) only [U106_0, U106_1, U106_4, U106_5, U106_8, U106_11, U106_12, U106_13, U106_16, U106_17, U106_18, U106_19, U106_22, U106_23, U106_26, U106_29, U106_30, U106_31, U106_32, U106_35, U106_36, U106_37, U106_40, U106_41, z_kd_sI, z_ln_sI, z_gI_sI, z_gJ_sI, z_gP_sI, z_nx_sI, z_rc_sI, z_rs_sI, z_em_sI, z_mi_sI, z_kd_sJ, z_ln_sJ, z_gI_sJ, z_gJ_sJ, z_gP_sJ, z_nx_sJ, z_rc_sJ, z_rs_sJ, z_em_sJ, z_mi_sJ, z_kd_sP, z_ln_sP, z_gI_sP, z_gJ_sP, z_gP_sP, z_nx_sP, z_rc_sP, z_rs_sP, z_em_sP, z_mi_sP, z_kd_nw, z_ln_nw, z_gI_nw, z_gJ_nw, z_gP_nw, z_nx_nw, z_rc_nw, z_rs_nw, z_em_nw, z_mi_nw, z_kd_cI, z_ln_cI, z_gI_cI, z_gJ_cI, z_gP_cI, z_nx_cI, z_rc_cI, z_rs_cI, z_em_cI, z_mi_cI, z_kd_cP, z_ln_cP, z_gI_cP, z_gJ_cP, z_gP_cP, z_nx_cP, z_rc_cP, z_rs_cP, z_em_cP, z_mi_cP, z_kd_wI, z_ln_wI, z_gI_wI, z_gJ_wI, z_gP_wI, z_nx_wI, z_rc_wI, z_rs_wI, z_em_wI, z_mi_wI, z_kd_wJ, z_ln_wJ, z_gI_wJ, z_gJ_wJ, z_gP_wJ, z_nx_wJ, z_rc_wJ, z_rs_wJ, z_em_wJ, z_mi_wJ, a1, a3, b1, b2, hp, i_add, i_mul, i_sub, i_addn, i_lt, i_eq, i_idx, i_vp, true_and, and_true, false_and, and_false, if_true, if_false, Nat.reduceAdd, Nat.reduceMul, Nat.reduceSub, Nat.reduceEqDiff, Option.some.injEq, exists_eq_left', true_or, or_true, false_or, or_false, not_true_eq_false, not_false_eq_true, eq_self, and_self, Nat.reduceLeDiff, decide_true, decide_false, ne_eq, Nat.left_eq_add, Nat.add_eq_left, Nat.add_left_cancel_iff, Nat.add_zero]
    refine ⟨q.2, ?_⟩
    have hob : ob o = none := by
      cases o with
      | none => rfl
      | some r =>
        have : r = [] := by rw [← ho.1]; exact List.drop_eq_nil_iff.mpr (by omega)
        rw [this]; rfl
    rw [hob]
    exact ⟨⟨0, by omega, rfl⟩, q.1⟩
