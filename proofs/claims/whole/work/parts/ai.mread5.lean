/-! ===== the model reads: readEvents, its loop ===== -/
section
variable {h : MH_} {m e w : Nat} {b0 : Int64} {fl : List Nat} {si : List (List Tok)} {old : List Ev}
theorem readEvents_loop (X0 : MS h m) (X2 : MF h m si) (hw : w < 4) (hold : old.length ≤ 2737) : ∀ N t cur r hh y7 y9 y10, r.length ≤ N → 2 * cur.length + r.length ≤ 238 → t < 9223372036854775808 → (∀ q ∈ cur, okL si q) → Rd h hh m e fl si old cur r →
    Wp 190 14 [.ref m, .int (Int32.ofNat w), .long b0, .null, .int (Int32.ofNat old.length), .long (Int64.ofNat t), .null, y7, .null, y9, y10] [] hh (PEv h m old.length (rEs si w N (laF cur) t (old ++ cur) r)) := by
  have done : ∀ N t cur hh y7 y9 y10, Rd h hh m e fl si old cur [] → Wp 190 14 [.ref m, .int (Int32.ofNat w), .long b0, .null, .int (Int32.ofNat old.length), .long (Int64.ofNat t), .null, y7, .null, y9, y10] [] hh (PEv h m old.length (rEs si w N (laF cur) t (old ++ cur) [])) := by
    intro N t cur hh y7 y9 y10 D
    obtain ⟨F, K, V, h27⟩ := D
    have Y0 := X0.fz F
    obtain ⟨kc, ⟨k2, k3⟩, p, hp, e43, hr, e45⟩ := id K
    obtain ⟨d1, d2⟩ := drop_take_len k2 hp hr
    rw [List.length_nil] at d1
    have hfl := kc.2.1
    rw [show rEs si w N (laF cur) t (old ++ cur) [] = some (old ++ cur) by cases N <;> rfl]
    rw [U190_14]
    simp (disch := omega) only [U190_15, U190_18, U190_21, U190_22, U190_25, U190_26, U190_29, U190_193, U190_194, U190_197, Y0.1, e45, e43, k3, show ¬ p < e by omega, show ¬ (1 : Nat) = 0 by omega, i_add, i_mul, i_sub, i_addn, i_lt, i_eq, i_idx, i_vp, true_and, and_true, false_and, and_false, if_true, if_false, Nat.reduceAdd, Nat.reduceMul, Nat.reduceSub, Nat.reduceEqDiff, Option.some.injEq, exists_eq_left', true_or, or_true, false_or, or_false, not_true_eq_false, not_false_eq_true, eq_self, and_self, Nat.reduceLeDiff, decide_true, decide_false, ne_eq, Nat.left_eq_add, Nat.add_eq_left, Nat.add_left_cancel_iff, Nat.add_zero]
    exact ⟨F, rfl, V, by rw [h27, List.length_append]⟩
  intro N
  induction N with
  | zero =>
    intro t cur r hh y7 y9 y10 hr hb ht ok D
    obtain rfl : r = [] := List.length_eq_zero_iff.mp (by omega)
    exact done 0 t cur hh y7 y9 y10 D
  | succ N ih =>
    intro t cur r hh y7 y9 y10 hr hb ht ok D
    cases r with
    | nil => exact done (N + 1) t cur hh y7 y9 y10 D
    | cons b r =>
      obtain ⟨F, K, V, h27⟩ := D
      have Y0 := X0.fz F
      have h40 := X2.2.1
      obtain ⟨kc, ⟨k2, k3⟩, p, hp, e43, hr', e45⟩ := id K
      obtain ⟨d1, d2⟩ := drop_take_len k2 hp hr'
      have hfl := kc.2.1
      have hlc : (b :: r).length = r.length + 1 := List.length_cons
      rw [U190_14]
      simp (disch := omega) only [U190_15, U190_18, U190_21, U190_22, U190_25, U190_26, U190_29, U190_32, U190_33, Y0.1, e45, e43, k3, show p < e by omega, show ¬ (1 : Nat) = 0 by omega, i_add, i_mul, i_sub, i_addn, i_lt, i_eq, i_idx, i_vp, true_and, and_true, false_and, and_false, if_true, if_false, Nat.reduceAdd, Nat.reduceMul, Nat.reduceSub, Nat.reduceEqDiff, Option.some.injEq, exists_eq_left', true_or, or_true, false_or, or_false, not_true_eq_false, not_false_eq_true, eq_self, and_self, Nat.reduceLeDiff, decide_true, decide_false, ne_eq, Nat.left_eq_add, Nat.add_eq_left, Nat.add_left_cancel_iff, Nat.add_zero]
      simp only [rEs]
      generalize hR : b :: r = R at *
      refine Wp_use (M_readVar Y0 K) ?_
      rintro v h1 ⟨f1, z1⟩
      have F1 := F.trans (f1.mono (SRd_SY (n := old.length)))
      have Z0 := X0.fz F1
      have s3 : gI_ h1 m 3 = Int32.ofNat si.length := by rw [F1.gI (by unfold SY; omega)]; exact X2.1
      /- behind the second VAR, when it is broken -/
      have bad : ∀ (x y : Int64) (hs hh2 : MH_), Fz (SY m old.length) h hs → Fz (SRd m) hs hh2 → MO hh2 m e fl none → bk_ Wp 190 68 0 192 [.ref m, .int (Int32.ofNat w), .long b0, .null, .int (Int32.ofNat old.length), .long (Int64.ofNat t), .null, .long x, .null, y9, y10] [.long (Int64.ofNat t)] (PEv h m old.length none) (.inl (.long y)) hh2 := by
        intro x y hs hh2 g1 g2 K2
        have G := g1.trans (g2.mono (SRd_SY (n := old.length)))
        have r2 : gI_ hh2 m 45 = Int32.ofNat 0 := K2.2.2
        have W0 := X0.fz G
        have o := readEvents_out (hh := sI_ hh2 m 45 (Int32.ofNat 0)) (w := Int32.ofNat w) (b0 := b0) (y4 := Int32.ofNat old.length) (y5 := Int64.ofNat t + y) (y7 := .long x) (y9 := y9) (y10 := y10) X0 (G.sI (Or.inl ⟨rfl, Or.inr (Or.inr rfl)⟩)) (by rw [z_gI_sI, if_pos ⟨rfl, rfl⟩])
        simp (disch := omega) only [V192, U190_71, U190_72, U190_74, U190_75, U190_76, U190_79, U190_82, U190_84, U190_85, U190_86, U190_89, U190_90, U190_93, U190_94, U190_97, U190_98, U190_101, U190_190, z_kd_sI, z_ln_sI, z_gI_sI, z_gJ_sI, z_gP_sI, z_nx_sI, z_rc_sI, z_rs_sI, z_em_sI, z_mi_sI, z_kd_sJ, z_ln_sJ, z_gI_sJ, z_gJ_sJ, z_gP_sJ, z_nx_sJ, z_rc_sJ, z_rs_sJ, z_em_sJ, z_mi_sJ, z_kd_sP, z_ln_sP, z_gI_sP, z_gJ_sP, z_gP_sP, z_nx_sP, z_rc_sP, z_rs_sP, z_em_sP, z_mi_sP, z_kd_nw, z_ln_nw, z_gI_nw, z_gJ_nw, z_gP_nw, z_nx_nw, z_rc_nw, z_rs_nw, z_em_nw, z_mi_nw, z_kd_cI, z_ln_cI, z_gI_cI, z_gJ_cI, z_gP_cI, z_nx_cI, z_rc_cI, z_rs_cI, z_em_cI, z_mi_cI, z_kd_cP, z_ln_cP, z_gI_cP, z_gJ_cP, z_gP_cP, z_nx_cP, z_rc_cP, z_rs_cP, z_em_cP, z_mi_cP, z_kd_wI, z_ln_wI, z_gI_wI, z_gJ_wI, z_gP_wI, z_nx_wI, z_rc_wI, z_rs_wI, z_em_wI, z_mi_wI, z_kd_wJ, z_ln_wJ, z_gI_wJ, z_gJ_wJ, z_gP_wJ, z_nx_wJ, z_rc_wJ, z_rs_wJ, z_em_wJ, z_mi_wJ, W0.1, r2, i_add, i_mul, i_sub, i_addn, i_lt, i_eq, i_idx, i_vp, true_and, and_true, false_and, and_false, if_true, if_false, Nat.reduceAdd, Nat.reduceMul, Nat.reduceSub, Nat.reduceEqDiff, Option.some.injEq, exists_eq_left', true_or, or_true, false_or, or_false, not_true_eq_false, not_false_eq_true, eq_self, and_self, Nat.reduceLeDiff, decide_true, decide_false, ne_eq, Nat.left_eq_add, Nat.add_eq_left, Nat.add_left_cancel_iff, Nat.add_zero]
        exact o
      cases hr1 : rV 9 0 0 R with
      | none =>
        rw [show (some R).bind (rV 9 0 0) = none from hr1] at z1
        obtain ⟨⟨x, rfl⟩, K1⟩ := z1
        have r1 : gI_ h1 m 45 = Int32.ofNat 0 := K1.2.2
        obtain ⟨q1, q2⟩ := K1.bad
        have F2 := F1.trans (q2.mono (SRd_SY (n := old.length)))
        rw [show rE si (laF cur) t R = none by simp [rE, hr1], Option.bind_none]
        simp (disch := omega) only [V192, U190_36, U190_38, U190_39, U190_40, U190_43, U190_46, U190_48, U190_49, U190_52, U190_53, U190_54, U190_57, U190_58, U190_61, U190_62, U190_65, U190_67, U190_68, z_kd_sI, z_ln_sI, z_gI_sI, z_gJ_sI, z_gP_sI, z_nx_sI, z_rc_sI, z_rs_sI, z_em_sI, z_mi_sI, z_kd_sJ, z_ln_sJ, z_gI_sJ, z_gJ_sJ, z_gP_sJ, z_nx_sJ, z_rc_sJ, z_rs_sJ, z_em_sJ, z_mi_sJ, z_kd_sP, z_ln_sP, z_gI_sP, z_gJ_sP, z_gP_sP, z_nx_sP, z_rc_sP, z_rs_sP, z_em_sP, z_mi_sP, z_kd_nw, z_ln_nw, z_gI_nw, z_gJ_nw, z_gP_nw, z_nx_nw, z_rc_nw, z_rs_nw, z_em_nw, z_mi_nw, z_kd_cI, z_ln_cI, z_gI_cI, z_gJ_cI, z_gP_cI, z_nx_cI, z_rc_cI, z_rs_cI, z_em_cI, z_mi_cI, z_kd_cP, z_ln_cP, z_gI_cP, z_gJ_cP, z_gP_cP, z_nx_cP, z_rc_cP, z_rs_cP, z_em_cP, z_mi_cP, z_kd_wI, z_ln_wI, z_gI_wI, z_gJ_wI, z_gP_wI, z_nx_wI, z_rc_wI, z_rs_wI, z_em_wI, z_mi_wI, z_kd_wJ, z_ln_wJ, z_gI_wJ, z_gJ_wJ, z_gP_wJ, z_nx_wJ, z_rc_wJ, z_rs_wJ, z_em_wJ, z_mi_wJ, Z0.1, r1, i_add, i_mul, i_sub, i_addn, i_lt, i_eq, i_idx, i_vp, true_and, and_true, false_and, and_false, if_true, if_false, Nat.reduceAdd, Nat.reduceMul, Nat.reduceSub, Nat.reduceEqDiff, Option.some.injEq, exists_eq_left', true_or, or_true, false_or, or_false, not_true_eq_false, not_false_eq_true, eq_self, and_self, Nat.reduceLeDiff, decide_true, decide_false, ne_eq, Nat.left_eq_add, Nat.add_eq_left, Nat.add_left_cancel_iff, Nat.add_zero]
        refine Wp_use (M_readVar (X0.fz F2) q1) ?_
        rintro v h3 ⟨f3, ⟨y, rfl⟩, K3⟩
        exact bad x y _ h3 F2 f3 K3
      | some x =>
        obtain ⟨s, r1⟩ := x
        rw [show (some R).bind (rV 9 0 0) = some (s, r1) from hr1] at z1
        obtain ⟨rfl, K1⟩ := z1
        have hs64 := rV_lt 9 0 0 R s r1 rfl (by decide) hr1
        have e45' := K1.right
        rw [← bz_t (by simp)] at e45'
        by_cases hsl : s < si.length
        · have hts : si[s]? = some si[s] := List.getElem?_eq_getElem hsl
          generalize si[s] = ts at hts
          obtain ⟨q1, q2⟩ := K1.same
          have F2 := F1.trans (q2.mono (SRd_SY (n := old.length)))
          simp (disch := omega) only [V192, U190_36, U190_38, U190_39, U190_40, U190_43, U190_46, U190_48, U190_49, U190_52, U190_53, U190_54, U190_57, U190_58, U190_61, U190_62, U190_65, U190_67, U190_68, z_kd_sI, z_ln_sI, z_gI_sI, z_gJ_sI, z_gP_sI, z_nx_sI, z_rc_sI, z_rs_sI, z_em_sI, z_mi_sI, z_kd_sJ, z_ln_sJ, z_gI_sJ, z_gJ_sJ, z_gP_sJ, z_nx_sJ, z_rc_sJ, z_rs_sJ, z_em_sJ, z_mi_sJ, z_kd_sP, z_ln_sP, z_gI_sP, z_gJ_sP, z_gP_sP, z_nx_sP, z_rc_sP, z_rs_sP, z_em_sP, z_mi_sP, z_kd_nw, z_ln_nw, z_gI_nw, z_gJ_nw, z_gP_nw, z_nx_nw, z_rc_nw, z_rs_nw, z_em_nw, z_mi_nw, z_kd_cI, z_ln_cI, z_gI_cI, z_gJ_cI, z_gP_cI, z_nx_cI, z_rc_cI, z_rs_cI, z_em_cI, z_mi_cI, z_kd_cP, z_ln_cP, z_gI_cP, z_gJ_cP, z_gP_cP, z_nx_cP, z_rc_cP, z_rs_cP, z_em_cP, z_mi_cP, z_kd_wI, z_ln_wI, z_gI_wI, z_gJ_wI, z_gP_wI, z_nx_wI, z_rc_wI, z_rs_wI, z_em_wI, z_mi_wI, z_kd_wJ, z_ln_wJ, z_gI_wJ, z_gJ_wJ, z_gP_wJ, z_nx_wJ, z_rc_wJ, z_rs_wJ, z_em_wJ, z_mi_wJ, Z0.1, e45', s3, i64, c_lt, j_lt, hsl, show ¬ (1 : Nat) = 0 by omega, i_add, i_mul, i_sub, i_addn, i_lt, i_eq, i_idx, i_vp, true_and, and_true, false_and, and_false, if_true, if_false, Nat.reduceAdd, Nat.reduceMul, Nat.reduceSub, Nat.reduceEqDiff, Option.some.injEq, exists_eq_left', true_or, or_true, false_or, or_false, not_true_eq_false, not_false_eq_true, eq_self, and_self, Nat.reduceLeDiff, decide_true, decide_false, ne_eq, Nat.left_eq_add, Nat.add_eq_left, Nat.add_left_cancel_iff, Nat.add_zero]
          refine Wp_use (M_readVar (X0.fz F2) q1) ?_
          rintro v h3 ⟨f3, z3⟩
          have F3 := F2.trans (f3.mono (SRd_SY (n := old.length)))
          have W0 := X0.fz F3
          cases hr2 : rV 9 0 0 r1 with
          | none =>
            rw [show (some r1).bind (rV 9 0 0) = none from hr2] at z3
            obtain ⟨⟨y, rfl⟩, K3⟩ := z3
            rw [show rE si (laF cur) t R = none by simp [rE, hr1, hr2], Option.bind_none]
            exact bad _ y _ h3 F2 f3 K3
          | some y =>
            obtain ⟨dt, r2⟩ := y
            rw [show (some r1).bind (rV 9 0 0) = some (dt, r2) from hr2] at z3
            obtain ⟨rfl, K3⟩ := z3
            have hd64 := rV_lt 9 0 0 r1 dt r2 rfl (by decide) hr2
            have e45'' := K3.right
            rw [← bz_t (by simp)] at e45''
            by_cases hgt : t + dt < 9223372036854775808
            · have rEe : rE si (laF cur) t R = (rS (fun j => laF cur (s * 6 + j)) (slts ts) 0 [] r2).bind fun z => some (s, t + dt, z.1, z.2) := by simp only [rE, hr1, hr2, Option.bind_some, hts, if_pos hgt]
              have h27' : gI_ h3 m 27 = Int32.ofNat (old.length + cur.length) := by rw [f3.gI (by unfold SRd; omega), q2.gI (by unfold SRd; omega), f1.gI (by unfold SRd; omega)]; exact h27
              have V3 : Mv h3 m (old ++ cur) := ((V.fz f1 (by unfold SRd; intro a i z; omega)).fz q2 (by unfold SRd; intro a i z; omega)).fz f3 (by unfold SRd; intro a i z; omega)
              have W2 := X2.fz F3 (by unfold SY; intro a i z; omega)
              generalize hN : old.length + cur.length = n at *
              have f4 : Fz (fun a i => (a = m ∧ i = 45) ∨ ((a = m + 20 ∨ a = m + 21 ∨ a = m + 22) ∧ i = n)) h3 (sJ_ (sI_ (sI_ (sI_ h3 m 45 (Int32.ofNat 1)) (m + 20) n (Int32.ofNat s)) (m + 21) n (Int32.ofNat w)) (m + 22) n (Int64.ofNat (t + dt))) := Fz.sJ (Fz.sI (Fz.sI (Fz.sI Fz.rfl' (Or.inl ⟨rfl, rfl⟩)) (Or.inr ⟨Or.inl rfl, rfl⟩)) (Or.inr ⟨Or.inr (Or.inl rfl), rfl⟩)) (Or.inr ⟨Or.inr (Or.inr rfl), rfl⟩)
              have F4 := F3.trans (f4.mono (T := SY m old.length) (by unfold SY; intro a i z; omega))
              have V4 : Mv (sJ_ (sI_ (sI_ (sI_ h3 m 45 (Int32.ofNat 1)) (m + 20) n (Int32.ofNat s)) (m + 21) n (Int32.ofNat w)) (m + 22) n (Int64.ofNat (t + dt))) m (old ++ cur) := by
                intro i y hy
                have hi := gI_len hy
                rw [List.length_append] at hi
                exact (V3 i y hy).fi f4 (fun a z w => by omega) (fun a k hk z w => by omega) (fun j w => by omega)
              have K4 : MO (sJ_ (sI_ (sI_ (sI_ h3 m 45 (Int32.ofNat 1)) (m + 20) n (Int32.ofNat s)) (m + 21) n (Int32.ofNat w)) (m + 22) n (Int64.ofNat (t + dt))) m e fl (some r2) := by
                obtain ⟨kc, ⟨k2, k3⟩, p, hp, e43, hr', e45⟩ := id K3
                exact K3.mk f4 (fun a i z w => by omega) hp (by rw [f4.gI (by omega)]; exact e43) hr' (by simp (disch := omega) only [z_kd_sI, z_ln_sI, z_gI_sI, z_gJ_sI, z_gP_sI, z_nx_sI, z_rc_sI, z_rs_sI, z_em_sI, z_mi_sI, z_kd_sJ, z_ln_sJ, z_gI_sJ, z_gJ_sJ, z_gP_sJ, z_nx_sJ, z_rc_sJ, z_rs_sJ, z_em_sJ, z_mi_sJ, z_kd_sP, z_ln_sP, z_gI_sP, z_gJ_sP, z_gP_sP, z_nx_sP, z_rc_sP, z_rs_sP, z_em_sP, z_mi_sP, z_kd_nw, z_ln_nw, z_gI_nw, z_gJ_nw, z_gP_nw, z_nx_nw, z_rc_nw, z_rs_nw, z_em_nw, z_mi_nw, z_kd_cI, z_ln_cI, z_gI_cI, z_gJ_cI, z_gP_cI, z_nx_cI, z_rc_cI, z_rs_cI, z_em_cI, z_mi_cI, z_kd_cP, z_ln_cP, z_gI_cP, z_gJ_cP, z_gP_cP, z_nx_cP, z_rc_cP, z_rs_cP, z_em_cP, z_mi_cP, z_kd_wI, z_ln_wI, z_gI_wI, z_gJ_wI, z_gP_wI, z_nx_wI, z_rc_wI, z_rs_wI, z_em_wI, z_mi_wI, z_kd_wJ, z_ln_wJ, z_gI_wJ, z_gJ_wJ, z_gP_wJ, z_nx_wJ, z_rc_wJ, z_rs_wJ, z_em_wJ, z_mi_wJ, true_and, and_true, false_and, and_false, if_true, if_false, Nat.reduceAdd, Nat.reduceMul, Nat.reduceSub, Nat.reduceEqDiff, Option.some.injEq, exists_eq_left', true_or, or_true, false_or, or_false, not_true_eq_false, not_false_eq_true, eq_self, and_self, Nat.reduceLeDiff, decide_true, decide_false, ne_eq, Nat.left_eq_add, Nat.add_eq_left, Nat.add_left_cancel_iff, Nat.add_zero])
              have Wc := MF.fz W2 f4 (fun a i z w => by omega)
              have sc : ∀ Q : Rs_ → MH_ → Prop, _ := fun Q => M_slotCount (Q := Q) (W0.fz f4) Wc hts
              have S := readEvents_slots (N := N) (t := t + dt) (b0 := b0) (w := w) (e := e) (fl := fl) (n := n) X0 X2 hts hold (by omega) ok hN.symm r2 (fun as r' hh y9 y10 hE D => by
                have hE' : rE si (laF cur) t R = some (s, t + dt, as, r') := by rw [rEe, hE]; rfl
                obtain ⟨i1, i2, -⟩ := rE_inv hE'
                have i1' : r'.length + 2 ≤ R.length := i1
                have := ih (t + dt) (cur ++ [(w, s, t + dt, as)]) r' hh (.long (Int64.ofNat s)) y9 y10 (by omega) (by rw [List.length_append, List.length_singleton]; omega) hgt (fun q hq => by
                  rcases List.mem_append.mp hq with hq | hq
                  · exact ok q hq
                  · rw [List.mem_singleton.mp hq]; exact ⟨hw, hgt, rE_fit hE'⟩) D
                rw [laF_snoc, ← List.append_assoc] at this
                exact this) (slts ts) 0 [] r2 _ rfl rfl (Nat.zero_le _) rfl ⟨F4, K4, V4, by rw [f4.gI (by omega), h27', hN]⟩ ⟨by simp (disch := omega) only [z_kd_sI, z_ln_sI, z_gI_sI, z_gJ_sI, z_gP_sI, z_nx_sI, z_rc_sI, z_rs_sI, z_em_sI, z_mi_sI, z_kd_sJ, z_ln_sJ, z_gI_sJ, z_gJ_sJ, z_gP_sJ, z_nx_sJ, z_rc_sJ, z_rs_sJ, z_em_sJ, z_mi_sJ, z_kd_sP, z_ln_sP, z_gI_sP, z_gJ_sP, z_gP_sP, z_nx_sP, z_rc_sP, z_rs_sP, z_em_sP, z_mi_sP, z_kd_nw, z_ln_nw, z_gI_nw, z_gJ_nw, z_gP_nw, z_nx_nw, z_rc_nw, z_rs_nw, z_em_nw, z_mi_nw, z_kd_cI, z_ln_cI, z_gI_cI, z_gJ_cI, z_gP_cI, z_nx_cI, z_rc_cI, z_rs_cI, z_em_cI, z_mi_cI, z_kd_cP, z_ln_cP, z_gI_cP, z_gJ_cP, z_gP_cP, z_nx_cP, z_rc_cP, z_rs_cP, z_em_cP, z_mi_cP, z_kd_wI, z_ln_wI, z_gI_wI, z_gJ_wI, z_gP_wI, z_nx_wI, z_rc_wI, z_rs_wI, z_em_wI, z_mi_wI, z_kd_wJ, z_ln_wJ, z_gI_wJ, z_gJ_wJ, z_gP_wJ, z_nx_wJ, z_rc_wJ, z_rs_wJ, z_em_wJ, z_mi_wJ, true_and, and_true, false_and, and_false, if_true, if_false, Nat.reduceAdd, Nat.reduceMul, Nat.reduceSub, Nat.reduceEqDiff, Option.some.injEq, exists_eq_left', true_or, or_true, false_or, or_false, not_true_eq_false, not_false_eq_true, eq_self, and_self, Nat.reduceLeDiff, decide_true, decide_false, ne_eq, Nat.left_eq_add, Nat.add_eq_left, Nat.add_left_cancel_iff, Nat.add_zero], by simp (disch := omega) only [z_kd_sI, z_ln_sI, z_gI_sI, z_gJ_sI, z_gP_sI, z_nx_sI, z_rc_sI, z_rs_sI, z_em_sI, z_mi_sI, z_kd_sJ, z_ln_sJ, z_gI_sJ, z_gJ_sJ, z_gP_sJ, z_nx_sJ, z_rc_sJ, z_rs_sJ, z_em_sJ, z_mi_sJ, z_kd_sP, z_ln_sP, z_gI_sP, z_gJ_sP, z_gP_sP, z_nx_sP, z_rc_sP, z_rs_sP, z_em_sP, z_mi_sP, z_kd_nw, z_ln_nw, z_gI_nw, z_gJ_nw, z_gP_nw, z_nx_nw, z_rc_nw, z_rs_nw, z_em_nw, z_mi_nw, z_kd_cI, z_ln_cI, z_gI_cI, z_gJ_cI, z_gP_cI, z_nx_cI, z_rc_cI, z_rs_cI, z_em_cI, z_mi_cI, z_kd_cP, z_ln_cP, z_gI_cP, z_gJ_cP, z_gP_cP, z_nx_cP, z_rc_cP, z_rs_cP, z_em_cP, z_mi_cP, z_kd_wI, z_ln_wI, z_gI_wI, z_gJ_wI, z_gP_wI, z_nx_wI, z_rc_wI, z_rs_wI, z_em_wI, z_mi_wI, z_kd_wJ, z_ln_wJ, z_gI_wJ, z_gJ_wJ, z_gP_wJ, z_nx_wJ, z_rc_wJ, z_rs_wJ, z_em_wJ, z_mi_wJ, true_and, and_true, false_and, and_false, if_true, if_false, Nat.reduceAdd, Nat.reduceMul, Nat.reduceSub, Nat.reduceEqDiff, Option.some.injEq, exists_eq_left', true_or, or_true, false_or, or_false, not_true_eq_false, not_false_eq_true, eq_self, and_self, Nat.reduceLeDiff, decide_true, decide_false, ne_eq, Nat.left_eq_add, Nat.add_eq_left, Nat.add_left_cancel_iff, Nat.add_zero], by simp (disch := omega) only [z_kd_sI, z_ln_sI, z_gI_sI, z_gJ_sI, z_gP_sI, z_nx_sI, z_rc_sI, z_rs_sI, z_em_sI, z_mi_sI, z_kd_sJ, z_ln_sJ, z_gI_sJ, z_gJ_sJ, z_gP_sJ, z_nx_sJ, z_rc_sJ, z_rs_sJ, z_em_sJ, z_mi_sJ, z_kd_sP, z_ln_sP, z_gI_sP, z_gJ_sP, z_gP_sP, z_nx_sP, z_rc_sP, z_rs_sP, z_em_sP, z_mi_sP, z_kd_nw, z_ln_nw, z_gI_nw, z_gJ_nw, z_gP_nw, z_nx_nw, z_rc_nw, z_rs_nw, z_em_nw, z_mi_nw, z_kd_cI, z_ln_cI, z_gI_cI, z_gJ_cI, z_gP_cI, z_nx_cI, z_rc_cI, z_rs_cI, z_em_cI, z_mi_cI, z_kd_cP, z_ln_cP, z_gI_cP, z_gJ_cP, z_gP_cP, z_nx_cP, z_rc_cP, z_rs_cP, z_em_cP, z_mi_cP, z_kd_wI, z_ln_wI, z_gI_wI, z_gJ_wI, z_gP_wI, z_nx_wI, z_rc_wI, z_rs_wI, z_em_wI, z_mi_wI, z_kd_wJ, z_ln_wJ, z_gI_wJ, z_gJ_wJ, z_gP_wJ, z_nx_wJ, z_rc_wJ, z_rs_wJ, z_em_wJ, z_mi_wJ, true_and, and_true, false_and, and_false, if_true, if_false, Nat.reduceAdd, Nat.reduceMul, Nat.reduceSub, Nat.reduceEqDiff, Option.some.injEq, exists_eq_left', true_or, or_true, false_or, or_false, not_true_eq_false, not_false_eq_true, eq_self, and_self, Nat.reduceLeDiff, decide_true, decide_false, ne_eq, Nat.left_eq_add, Nat.add_eq_left, Nat.add_left_cancel_iff, Nat.add_zero]⟩ (fun j g hg => by cases hg)
              rw [rEe]
              rw [show ((rS (fun j => laF cur (s * 6 + j)) (slts ts) 0 [] r2).bind fun z => some (s, t + dt, z.1, z.2)).bind (fun x => rEs si w N (laU (laF cur) x.1 x.2.2.1) x.2.1 (old ++ cur ++ [(w, x.1, x.2.1, x.2.2.1)]) x.2.2.2) = (rS (fun j => laF cur (s * 6 + j)) (slts ts) 0 [] r2).bind fun z => rEs si w N (laU (laF cur) s z.1) (t + dt) (old ++ cur ++ [(w, s, t + dt, z.1)]) z.2 by cases rS (fun j => laF cur (s * 6 + j)) (slts ts) 0 [] r2 <;> rfl]
              simp (disch := omega) only [V192, U190_71, U190_72, U190_74, U190_75, U190_76, U190_79, U190_82, U190_84, U190_85, U190_86, U190_89, U190_90, U190_93, U190_94, U190_97, U190_98, U190_101, U190_104, U190_105, U190_108, U190_109, U190_112, U190_114, U190_115, U190_116, U190_117, U190_120, U190_121, U190_124, U190_125, U190_126, U190_127, U190_130, U190_131, U190_134, U190_136, U190_137, U190_138, U190_140, U190_141, U190_144, U190_146, U190_147, z_kd_sI, z_ln_sI, z_gI_sI, z_gJ_sI, z_gP_sI, z_nx_sI, z_rc_sI, z_rs_sI, z_em_sI, z_mi_sI, z_kd_sJ, z_ln_sJ, z_gI_sJ, z_gJ_sJ, z_gP_sJ, z_nx_sJ, z_rc_sJ, z_rs_sJ, z_em_sJ, z_mi_sJ, z_kd_sP, z_ln_sP, z_gI_sP, z_gJ_sP, z_gP_sP, z_nx_sP, z_rc_sP, z_rs_sP, z_em_sP, z_mi_sP, z_kd_nw, z_ln_nw, z_gI_nw, z_gJ_nw, z_gP_nw, z_nx_nw, z_rc_nw, z_rs_nw, z_em_nw, z_mi_nw, z_kd_cI, z_ln_cI, z_gI_cI, z_gJ_cI, z_gP_cI, z_nx_cI, z_rc_cI, z_rs_cI, z_em_cI, z_mi_cI, z_kd_cP, z_ln_cP, z_gI_cP, z_gJ_cP, z_gP_cP, z_nx_cP, z_rc_cP, z_rs_cP, z_em_cP, z_mi_cP, z_kd_wI, z_ln_wI, z_gI_wI, z_gJ_wI, z_gP_wI, z_nx_wI, z_rc_wI, z_rs_wI, z_em_wI, z_mi_wI, z_kd_wJ, z_ln_wJ, z_gI_wJ, z_gJ_wJ, z_gP_wJ, z_nx_wJ, z_rc_wJ, z_rs_wJ, z_em_wJ, z_mi_wJ, W0.1, e45'', h27', j_add, j_i, c_lt, j_neg, show ¬ 9223372036854775808 ≤ t + dt by omega, show ¬ (1 : Nat) = 0 by omega, mp28 W0, mk20 W0, mn20 W0, mp29 W0, mk21 W0, mn21 W0, mp30 W0, mk22 W0, mn22 W0, show n < 2900 by omega, sc, V198, i_add, i_mul, i_sub, i_addn, i_lt, i_eq, i_idx, i_vp, true_and, and_true, false_and, and_false, if_true, if_false, Nat.reduceAdd, Nat.reduceMul, Nat.reduceSub, Nat.reduceEqDiff, Option.some.injEq, exists_eq_left', true_or, or_true, false_or, or_false, not_true_eq_false, not_false_eq_true, eq_self, and_self, Nat.reduceLeDiff, decide_true, decide_false, ne_eq, Nat.left_eq_add, Nat.add_eq_left, Nat.add_left_cancel_iff, Nat.add_zero]
              exact S
            · rw [show rE si (laF cur) t R = none by simp only [rE, hr1, hr2, Option.bind_some, hts, if_neg hgt], Option.bind_none]
              have o := readEvents_out (hh := sI_ h3 m 45 (Int32.ofNat 0)) (w := Int32.ofNat w) (b0 := b0) (y4 := Int32.ofNat old.length) (y5 := Int64.ofNat (t + dt)) (y7 := .long (Int64.ofNat s)) (y9 := y9) (y10 := y10) X0 (F3.sI (Or.inl ⟨rfl, Or.inr (Or.inr rfl)⟩)) (by rw [z_gI_sI, if_pos ⟨rfl, rfl⟩])
              simp (disch := omega) only [V192, U190_71, U190_72, U190_74, U190_75, U190_76, U190_79, U190_82, U190_84, U190_85, U190_86, U190_89, U190_90, U190_93, U190_94, U190_97, U190_98, U190_101, U190_190, z_kd_sI, z_ln_sI, z_gI_sI, z_gJ_sI, z_gP_sI, z_nx_sI, z_rc_sI, z_rs_sI, z_em_sI, z_mi_sI, z_kd_sJ, z_ln_sJ, z_gI_sJ, z_gJ_sJ, z_gP_sJ, z_nx_sJ, z_rc_sJ, z_rs_sJ, z_em_sJ, z_mi_sJ, z_kd_sP, z_ln_sP, z_gI_sP, z_gJ_sP, z_gP_sP, z_nx_sP, z_rc_sP, z_rs_sP, z_em_sP, z_mi_sP, z_kd_nw, z_ln_nw, z_gI_nw, z_gJ_nw, z_gP_nw, z_nx_nw, z_rc_nw, z_rs_nw, z_em_nw, z_mi_nw, z_kd_cI, z_ln_cI, z_gI_cI, z_gJ_cI, z_gP_cI, z_nx_cI, z_rc_cI, z_rs_cI, z_em_cI, z_mi_cI, z_kd_cP, z_ln_cP, z_gI_cP, z_gJ_cP, z_gP_cP, z_nx_cP, z_rc_cP, z_rs_cP, z_em_cP, z_mi_cP, z_kd_wI, z_ln_wI, z_gI_wI, z_gJ_wI, z_gP_wI, z_nx_wI, z_rc_wI, z_rs_wI, z_em_wI, z_mi_wI, z_kd_wJ, z_ln_wJ, z_gI_wJ, z_gJ_wJ, z_gP_wJ, z_nx_wJ, z_rc_wJ, z_rs_wJ, z_em_wJ, z_mi_wJ, W0.1, e45'', j_add, c_lt, j_neg, show 9223372036854775808 ≤ t + dt by omega, show ¬ (1 : Nat) = 0 by omega, i_add, i_mul, i_sub, i_addn, i_lt, i_eq, i_idx, i_vp, true_and, and_true, false_and, and_false, if_true, if_false, Nat.reduceAdd, Nat.reduceMul, Nat.reduceSub, Nat.reduceEqDiff, Option.some.injEq, exists_eq_left', true_or, or_true, false_or, or_false, not_true_eq_false, not_false_eq_true, eq_self, and_self, Nat.reduceLeDiff, decide_true, decide_false, ne_eq, Nat.left_eq_add, Nat.add_eq_left, Nat.add_left_cancel_iff, Nat.add_zero]
              exact o
        · have hts : si[s]? = none := List.getElem?_eq_none (by omega)
          rw [show rE si (laF cur) t R = none by simp only [rE, hr1, Option.bind_some, hts, Option.bind_none]; cases rV 9 0 0 r1 <;> rfl, Option.bind_none]
          obtain ⟨q1, q2⟩ := K1.bad
          have F2 := F1.trans (q2.mono (SRd_SY (n := old.length)))
          simp (disch := omega) only [V192, U190_36, U190_38, U190_39, U190_40, U190_43, U190_46, U190_48, U190_49, U190_52, U190_53, U190_54, U190_57, U190_58, U190_61, U190_62, U190_65, U190_67, U190_68, z_kd_sI, z_ln_sI, z_gI_sI, z_gJ_sI, z_gP_sI, z_nx_sI, z_rc_sI, z_rs_sI, z_em_sI, z_mi_sI, z_kd_sJ, z_ln_sJ, z_gI_sJ, z_gJ_sJ, z_gP_sJ, z_nx_sJ, z_rc_sJ, z_rs_sJ, z_em_sJ, z_mi_sJ, z_kd_sP, z_ln_sP, z_gI_sP, z_gJ_sP, z_gP_sP, z_nx_sP, z_rc_sP, z_rs_sP, z_em_sP, z_mi_sP, z_kd_nw, z_ln_nw, z_gI_nw, z_gJ_nw, z_gP_nw, z_nx_nw, z_rc_nw, z_rs_nw, z_em_nw, z_mi_nw, z_kd_cI, z_ln_cI, z_gI_cI, z_gJ_cI, z_gP_cI, z_nx_cI, z_rc_cI, z_rs_cI, z_em_cI, z_mi_cI, z_kd_cP, z_ln_cP, z_gI_cP, z_gJ_cP, z_gP_cP, z_nx_cP, z_rc_cP, z_rs_cP, z_em_cP, z_mi_cP, z_kd_wI, z_ln_wI, z_gI_wI, z_gJ_wI, z_gP_wI, z_nx_wI, z_rc_wI, z_rs_wI, z_em_wI, z_mi_wI, z_kd_wJ, z_ln_wJ, z_gI_wJ, z_gJ_wJ, z_gP_wJ, z_nx_wJ, z_rc_wJ, z_rs_wJ, z_em_wJ, z_mi_wJ, Z0.1, e45', s3, i64, c_lt, j_lt, hsl, show ¬ (1 : Nat) = 0 by omega, i_add, i_mul, i_sub, i_addn, i_lt, i_eq, i_idx, i_vp, true_and, and_true, false_and, and_false, if_true, if_false, Nat.reduceAdd, Nat.reduceMul, Nat.reduceSub, Nat.reduceEqDiff, Option.some.injEq, exists_eq_left', true_or, or_true, false_or, or_false, not_true_eq_false, not_false_eq_true, eq_self, and_self, Nat.reduceLeDiff, decide_true, decide_false, ne_eq, Nat.left_eq_add, Nat.add_eq_left, Nat.add_left_cancel_iff, Nat.add_zero]
          refine Wp_use (M_readVar (X0.fz F2) q1) ?_
          rintro v h3 ⟨f3, ⟨y, rfl⟩, K3⟩
          exact bad _ y _ h3 F2 f3 K3
end
