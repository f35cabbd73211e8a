/-! ===== a format that is right; a new format ===== -/
theorem tcons_r {t : Tok} {res : Nat ⊕ List Tok} {ts : List Tok} (h : tcons t res = .inr ts) : ∃ us, res = .inr us ∧ ts = t :: us := by
  cases res with
  | inl p => cases h
  | inr us => exact ⟨us, rfl, (Sum.inr.inj h).symm⟩
theorem spell_cons {t : Tok} {us : List Tok} : spell (t :: us) = sp1 t ++ spell us := by unfold spell; rw [List.flatMap_cons]
theorem okS_cons {t : Tok} {us : List Tok} (h1 : okT t) (h2 : okS us) : okS (t :: us) := by
  intro x hx
  rcases List.mem_cons.mp hx with rfl | hx
  · exact h1
  · exact h2 x hx
theorem fm_ok : ∀ N r, r.length ≤ N → ∀ p n ts, fm r p n = .inr ts → spell ts = r ∧ okS ts := by
  intro N
  induction N with
  | zero =>
    intro r hr p n ts h
    have : r = [] := List.length_eq_zero_iff.mp (by omega)
    subst this
    unfold fm at h
    have e := Sum.inr.inj h
    subst e
    exact ⟨rfl, fun x hx => absurd hx List.not_mem_nil⟩
  | succ N ih =>
    intro r hr p n ts h
    cases r with
    | nil =>
      unfold fm at h
      have e := Sum.inr.inj h
      subst e
      exact ⟨rfl, fun x hx => absurd hx List.not_mem_nil⟩
    | cons b r =>
      rw [List.length_cons] at hr
      unfold fm at h
      split at h
      · cases h
      · rename_i hb
        have hsg : sg b := by
          by_cases hs : sg b
          · exact hs
          · exact absurd (fun z => hs z.2) hb
        split at h
        · rename_i h125
          cases r with
          | nil => cases h
          | cons c r' =>
            simp only at h
            split at h
            · rename_i hc
              obtain ⟨us, h1, h2⟩ := tcons_r h
              obtain ⟨e1, e2⟩ := ih r' (by rw [List.length_cons] at hr; omega) _ _ _ h1
              subst h2
              refine ⟨?_, okS_cons (by show sg 125; decide) e2⟩
              rw [spell_cons, e1, h125, hc.2]
              rfl
            · cases h
        · rename_i h125
          split at h
          · rename_i h123
            obtain ⟨us, h1, h2⟩ := tcons_r h
            obtain ⟨e1, e2⟩ := ih r (by omega) _ _ _ h1
            subst h2
            refine ⟨?_, okS_cons hsg e2⟩
            rw [spell_cons, e1]
            show (if b = 123 ∨ b = 125 then [b, b] else [b]) ++ r = b :: r
            rw [if_neg (by omega)]
            rfl
          · rename_i h123
            have hb123 : b = 123 := by omega
            subst hb123
            cases r with
            | nil => simp only at h; split at h <;> cases h
            | cons c r' =>
              simp only at h
              rw [List.length_cons] at hr
              split at h
              · rename_i hc
                split at h
                · obtain ⟨us, h1, h2⟩ := tcons_r h
                  obtain ⟨e1, e2⟩ := ih r' (by omega) _ _ _ h1
                  subst h2
                  refine ⟨?_, okS_cons (by show sg 123; decide) e2⟩
                  rw [spell_cons, e1, hc]
                  rfl
                · cases h
              · split at h
                · cases h
                · split at h
                  · cases h
                  · split at h
                    · rename_i hfe
                      cases r' with
                      | nil => cases h
                      | cons d r'' =>
                        simp only at h
                        rw [List.length_cons] at hr
                        split at h
                        · rename_i hd
                          cases r'' with
                          | nil => cases h
                          | cons e r3 =>
                            simp only at h
                            rw [List.length_cons] at hr
                            split at h
                            · rename_i he
                              obtain ⟨us, h1, h2⟩ := tcons_r h
                              obtain ⟨e1, e2⟩ := ih r3 (by omega) _ _ _ h1
                              subst h2
                              refine ⟨?_, okS_cons (by show (_ ∨ _); omega) e2⟩
                              rw [spell_cons, e1, he.2]
                              show (if c = 102 ∨ c = 101 then [123, c, 48 + (d - 48), 125] else [123, c, 125]) ++ r3 = _
                              rw [if_pos hfe, show 48 + (d - 48) = d by omega]
                              rfl
                            · cases h
                        · cases h
                    · rename_i hfe
                      split at h
                      · rename_i hk
                        cases r' with
                        | nil => cases h
                        | cons e r'' =>
                          simp only at h
                          rw [List.length_cons] at hr
                          split at h
                          · rename_i he
                            obtain ⟨us, h1, h2⟩ := tcons_r h
                            obtain ⟨e1, e2⟩ := ih r'' (by omega) _ _ _ h1
                            subst h2
                            refine ⟨?_, okS_cons (by show (_ ∨ _); omega) e2⟩
                            rw [spell_cons, e1, he.2]
                            show (if c = 102 ∨ c = 101 then [123, c, 48 + 0, 125] else [123, c, 125]) ++ r'' = _
                            rw [if_neg hfe]
                            rfl
                          · cases h
                      · cases h
theorem Row_init {h : MH_} {r c : Nat} (hk : kd_ h r = 10) (hn : nx_ h = r + 1) (h1 : gI_ h r 1 = Int32.ofNat 0) (hc : c ≤ 100000) (hr : 1 ≤ rc_ h) (hs : c ≤ rs_ h) : Wp 84 0 [.ref r, .int (Int32.ofNat c)] [] h (fun v h' => v = .inl .null ∧ Rw h' r c [] ∧ nx_ h' = r + 2 ∧ Fa (fun b _ => b = r) 1 c h h') := by
  simp (disch := omega) only [U84_0, U84_1, U84_4, U84_5, U84_6, U84_8, U84_11, z_kd_sI, z_ln_sI, z_gI_sI, z_gJ_sI, z_gP_sI, z_nx_sI, z_rc_sI, z_rs_sI, z_em_sI, z_mi_sI, z_kd_sJ, z_ln_sJ, z_gI_sJ, z_gJ_sJ, z_gP_sJ, z_nx_sJ, z_rc_sJ, z_rs_sJ, z_em_sJ, z_mi_sJ, z_kd_sP, z_ln_sP, z_gI_sP, z_gJ_sP, z_gP_sP, z_nx_sP, z_rc_sP, z_rs_sP, z_em_sP, z_mi_sP, z_kd_nw, z_ln_nw, z_gI_nw, z_gJ_nw, z_gP_nw, z_nx_nw, z_rc_nw, z_rs_nw, z_em_nw, z_mi_nw, z_kd_cI, z_ln_cI, z_gI_cI, z_gJ_cI, z_gP_cI, z_nx_cI, z_rc_cI, z_rs_cI, z_em_cI, z_mi_cI, z_kd_cP, z_ln_cP, z_gI_cP, z_gJ_cP, z_gP_cP, z_nx_cP, z_rc_cP, z_rs_cP, z_em_cP, z_mi_cP, z_kd_wI, z_ln_wI, z_gI_wI, z_gJ_wI, z_gP_wI, z_nx_wI, z_rc_wI, z_rs_wI, z_em_wI, z_mi_wI, z_kd_wJ, z_ln_wJ, z_gI_wJ, z_gJ_wJ, z_gP_wJ, z_nx_wJ, z_rc_wJ, z_rs_wJ, z_em_wJ, z_mi_wJ, hk, hn, show ¬ c < 0 by omega, show c ≤ 1000000 by omega, hr, hs, show ¬ r = r + 1 by omega, i_add, i_mul, i_sub, i_addn, i_lt, i_eq, i_idx, i_vp, true_and, and_true, false_and, and_false, if_true, if_false, Nat.reduceAdd, Nat.reduceMul, Nat.reduceSub, Nat.reduceEqDiff, Option.some.injEq, exists_eq_left', true_or, or_true, false_or, or_false, not_true_eq_false, not_false_eq_true, eq_self, and_self, Nat.reduceLeDiff, decide_true, decide_false, ne_eq, Nat.left_eq_add, Nat.add_eq_left, Nat.add_left_cancel_iff, Nat.add_zero]
  refine ⟨⟨?_, ?_, ?_, ?_, hc, Nat.zero_le _, ?_, fun i hi => absurd hi (Nat.not_lt_zero _), fun b hb => absurd hb List.not_mem_nil⟩, ?_⟩
  · simp only [z_kd_sI, z_ln_sI, z_gI_sI, z_gJ_sI, z_gP_sI, z_nx_sI, z_rc_sI, z_rs_sI, z_em_sI, z_mi_sI, z_kd_sJ, z_ln_sJ, z_gI_sJ, z_gJ_sJ, z_gP_sJ, z_nx_sJ, z_rc_sJ, z_rs_sJ, z_em_sJ, z_mi_sJ, z_kd_sP, z_ln_sP, z_gI_sP, z_gJ_sP, z_gP_sP, z_nx_sP, z_rc_sP, z_rs_sP, z_em_sP, z_mi_sP, z_kd_nw, z_ln_nw, z_gI_nw, z_gJ_nw, z_gP_nw, z_nx_nw, z_rc_nw, z_rs_nw, z_em_nw, z_mi_nw, z_kd_cI, z_ln_cI, z_gI_cI, z_gJ_cI, z_gP_cI, z_nx_cI, z_rc_cI, z_rs_cI, z_em_cI, z_mi_cI, z_kd_cP, z_ln_cP, z_gI_cP, z_gJ_cP, z_gP_cP, z_nx_cP, z_rc_cP, z_rs_cP, z_em_cP, z_mi_cP, z_kd_wI, z_ln_wI, z_gI_wI, z_gJ_wI, z_gP_wI, z_nx_wI, z_rc_wI, z_rs_wI, z_em_wI, z_mi_wI, z_kd_wJ, z_ln_wJ, z_gI_wJ, z_gJ_wJ, z_gP_wJ, z_nx_wJ, z_rc_wJ, z_rs_wJ, z_em_wJ, z_mi_wJ, hn, show ¬ r = r + 1 by omega, if_false, hk]
  · simp only [z_kd_sI, z_ln_sI, z_gI_sI, z_gJ_sI, z_gP_sI, z_nx_sI, z_rc_sI, z_rs_sI, z_em_sI, z_mi_sI, z_kd_sJ, z_ln_sJ, z_gI_sJ, z_gJ_sJ, z_gP_sJ, z_nx_sJ, z_rc_sJ, z_rs_sJ, z_em_sJ, z_mi_sJ, z_kd_sP, z_ln_sP, z_gI_sP, z_gJ_sP, z_gP_sP, z_nx_sP, z_rc_sP, z_rs_sP, z_em_sP, z_mi_sP, z_kd_nw, z_ln_nw, z_gI_nw, z_gJ_nw, z_gP_nw, z_nx_nw, z_rc_nw, z_rs_nw, z_em_nw, z_mi_nw, z_kd_cI, z_ln_cI, z_gI_cI, z_gJ_cI, z_gP_cI, z_nx_cI, z_rc_cI, z_rs_cI, z_em_cI, z_mi_cI, z_kd_cP, z_ln_cP, z_gI_cP, z_gJ_cP, z_gP_cP, z_nx_cP, z_rc_cP, z_rs_cP, z_em_cP, z_mi_cP, z_kd_wI, z_ln_wI, z_gI_wI, z_gJ_wI, z_gP_wI, z_nx_wI, z_rc_wI, z_rs_wI, z_em_wI, z_mi_wI, z_kd_wJ, z_ln_wJ, z_gI_wJ, z_gJ_wJ, z_gP_wJ, z_nx_wJ, z_rc_wJ, z_rs_wJ, z_em_wJ, z_mi_wJ, eq_self, and_self, if_true]
  · simp only [z_kd_sI, z_ln_sI, z_gI_sI, z_gJ_sI, z_gP_sI, z_nx_sI, z_rc_sI, z_rs_sI, z_em_sI, z_mi_sI, z_kd_sJ, z_ln_sJ, z_gI_sJ, z_gJ_sJ, z_gP_sJ, z_nx_sJ, z_rc_sJ, z_rs_sJ, z_em_sJ, z_mi_sJ, z_kd_sP, z_ln_sP, z_gI_sP, z_gJ_sP, z_gP_sP, z_nx_sP, z_rc_sP, z_rs_sP, z_em_sP, z_mi_sP, z_kd_nw, z_ln_nw, z_gI_nw, z_gJ_nw, z_gP_nw, z_nx_nw, z_rc_nw, z_rs_nw, z_em_nw, z_mi_nw, z_kd_cI, z_ln_cI, z_gI_cI, z_gJ_cI, z_gP_cI, z_nx_cI, z_rc_cI, z_rs_cI, z_em_cI, z_mi_cI, z_kd_cP, z_ln_cP, z_gI_cP, z_gJ_cP, z_gP_cP, z_nx_cP, z_rc_cP, z_rs_cP, z_em_cP, z_mi_cP, z_kd_wI, z_ln_wI, z_gI_wI, z_gJ_wI, z_gP_wI, z_nx_wI, z_rc_wI, z_rs_wI, z_em_wI, z_mi_wI, z_kd_wJ, z_ln_wJ, z_gI_wJ, z_gJ_wJ, z_gP_wJ, z_nx_wJ, z_rc_wJ, z_rs_wJ, z_em_wJ, z_mi_wJ, hn, eq_self, if_true]
  · simp only [z_kd_sI, z_ln_sI, z_gI_sI, z_gJ_sI, z_gP_sI, z_nx_sI, z_rc_sI, z_rs_sI, z_em_sI, z_mi_sI, z_kd_sJ, z_ln_sJ, z_gI_sJ, z_gJ_sJ, z_gP_sJ, z_nx_sJ, z_rc_sJ, z_rs_sJ, z_em_sJ, z_mi_sJ, z_kd_sP, z_ln_sP, z_gI_sP, z_gJ_sP, z_gP_sP, z_nx_sP, z_rc_sP, z_rs_sP, z_em_sP, z_mi_sP, z_kd_nw, z_ln_nw, z_gI_nw, z_gJ_nw, z_gP_nw, z_nx_nw, z_rc_nw, z_rs_nw, z_em_nw, z_mi_nw, z_kd_cI, z_ln_cI, z_gI_cI, z_gJ_cI, z_gP_cI, z_nx_cI, z_rc_cI, z_rs_cI, z_em_cI, z_mi_cI, z_kd_cP, z_ln_cP, z_gI_cP, z_gJ_cP, z_gP_cP, z_nx_cP, z_rc_cP, z_rs_cP, z_em_cP, z_mi_cP, z_kd_wI, z_ln_wI, z_gI_wI, z_gJ_wI, z_gP_wI, z_nx_wI, z_rc_wI, z_rs_wI, z_em_wI, z_mi_wI, z_kd_wJ, z_ln_wJ, z_gI_wJ, z_gJ_wJ, z_gP_wJ, z_nx_wJ, z_rc_wJ, z_rs_wJ, z_em_wJ, z_mi_wJ, hn, eq_self, if_true]
  · simp only [z_kd_sI, z_ln_sI, z_gI_sI, z_gJ_sI, z_gP_sI, z_nx_sI, z_rc_sI, z_rs_sI, z_em_sI, z_mi_sI, z_kd_sJ, z_ln_sJ, z_gI_sJ, z_gJ_sJ, z_gP_sJ, z_nx_sJ, z_rc_sJ, z_rs_sJ, z_em_sJ, z_mi_sJ, z_kd_sP, z_ln_sP, z_gI_sP, z_gJ_sP, z_gP_sP, z_nx_sP, z_rc_sP, z_rs_sP, z_em_sP, z_mi_sP, z_kd_nw, z_ln_nw, z_gI_nw, z_gJ_nw, z_gP_nw, z_nx_nw, z_rc_nw, z_rs_nw, z_em_nw, z_mi_nw, z_kd_cI, z_ln_cI, z_gI_cI, z_gJ_cI, z_gP_cI, z_nx_cI, z_rc_cI, z_rs_cI, z_em_cI, z_mi_cI, z_kd_cP, z_ln_cP, z_gI_cP, z_gJ_cP, z_gP_cP, z_nx_cP, z_rc_cP, z_rs_cP, z_em_cP, z_mi_cP, z_kd_wI, z_ln_wI, z_gI_wI, z_gJ_wI, z_gP_wI, z_nx_wI, z_rc_wI, z_rs_wI, z_em_wI, z_mi_wI, z_kd_wJ, z_ln_wJ, z_gI_wJ, z_gJ_wJ, z_gP_wJ, z_nx_wJ, z_rc_wJ, z_rs_wJ, z_em_wJ, z_mi_wJ, hn, show ¬ r = r + 1 by omega, if_false, h1]; rfl
  · have f1 := ((Fa.rfl' (S := fun b _ => b = r) (h := h)).nw' (k := 31) (m := c) (w' := c) hr hs).sP (a := r) (j := 0) (x := some (r + 1)) (Or.inr rfl)
    exact f1.mono (fun _ _ _ z => z) (by omega) (by omega)
theorem Format_init {h : MH_} {f : Nat} (hk : kd_ h f = 3) (hn : nx_ h = f + 1) (hr : 5 ≤ rc_ h) (hs : 174 ≤ rs_ h) : Wp 26 0 [.ref f] [] h (fun v h' => v = .inl .null ∧ Fs h' f ∧ Rw h' (f + 1) 80 [] ∧ nx_ h' = f + 6 ∧ Fa (fun b _ => b = f) 5 174 h h') := by
  simp (disch := omega) only [U26_0, U26_1, U26_4, U26_5, U26_8, U26_9, U26_11, z_kd_sI, z_ln_sI, z_gI_sI, z_gJ_sI, z_gP_sI, z_nx_sI, z_rc_sI, z_rs_sI, z_em_sI, z_mi_sI, z_kd_sJ, z_ln_sJ, z_gI_sJ, z_gJ_sJ, z_gP_sJ, z_nx_sJ, z_rc_sJ, z_rs_sJ, z_em_sJ, z_mi_sJ, z_kd_sP, z_ln_sP, z_gI_sP, z_gJ_sP, z_gP_sP, z_nx_sP, z_rc_sP, z_rs_sP, z_em_sP, z_mi_sP, z_kd_nw, z_ln_nw, z_gI_nw, z_gJ_nw, z_gP_nw, z_nx_nw, z_rc_nw, z_rs_nw, z_em_nw, z_mi_nw, z_kd_cI, z_ln_cI, z_gI_cI, z_gJ_cI, z_gP_cI, z_nx_cI, z_rc_cI, z_rs_cI, z_em_cI, z_mi_cI, z_kd_cP, z_ln_cP, z_gI_cP, z_gJ_cP, z_gP_cP, z_nx_cP, z_rc_cP, z_rs_cP, z_em_cP, z_mi_cP, z_kd_wI, z_ln_wI, z_gI_wI, z_gJ_wI, z_gP_wI, z_nx_wI, z_rc_wI, z_rs_wI, z_em_wI, z_mi_wI, z_kd_wJ, z_ln_wJ, z_gI_wJ, z_gJ_wJ, z_gP_wJ, z_nx_wJ, z_rc_wJ, z_rs_wJ, z_em_wJ, z_mi_wJ, hk, hn, show 1 ≤ rc_ h by omega, show 2 ≤ rs_ h by omega, i_add, i_mul, i_sub, i_addn, i_lt, i_eq, i_idx, i_vp, true_and, and_true, false_and, and_false, if_true, if_false, Nat.reduceAdd, Nat.reduceMul, Nat.reduceSub, Nat.reduceEqDiff, Option.some.injEq, exists_eq_left', true_or, or_true, false_or, or_false, not_true_eq_false, not_false_eq_true, eq_self, and_self, Nat.reduceLeDiff, decide_true, decide_false, ne_eq, Nat.left_eq_add, Nat.add_eq_left, Nat.add_left_cancel_iff, Nat.add_zero]
  have f0 : Fa (fun b _ => b = f) 1 2 h (nw_ h 10 0 2) := Fa.nw (by omega) (by omega)
  refine Wp_use (Row_init (h := nw_ h 10 0 2) (r := f + 1) (c := 80) (by simp only [z_kd_sI, z_ln_sI, z_gI_sI, z_gJ_sI, z_gP_sI, z_nx_sI, z_rc_sI, z_rs_sI, z_em_sI, z_mi_sI, z_kd_sJ, z_ln_sJ, z_gI_sJ, z_gJ_sJ, z_gP_sJ, z_nx_sJ, z_rc_sJ, z_rs_sJ, z_em_sJ, z_mi_sJ, z_kd_sP, z_ln_sP, z_gI_sP, z_gJ_sP, z_gP_sP, z_nx_sP, z_rc_sP, z_rs_sP, z_em_sP, z_mi_sP, z_kd_nw, z_ln_nw, z_gI_nw, z_gJ_nw, z_gP_nw, z_nx_nw, z_rc_nw, z_rs_nw, z_em_nw, z_mi_nw, z_kd_cI, z_ln_cI, z_gI_cI, z_gJ_cI, z_gP_cI, z_nx_cI, z_rc_cI, z_rs_cI, z_em_cI, z_mi_cI, z_kd_cP, z_ln_cP, z_gI_cP, z_gJ_cP, z_gP_cP, z_nx_cP, z_rc_cP, z_rs_cP, z_em_cP, z_mi_cP, z_kd_wI, z_ln_wI, z_gI_wI, z_gJ_wI, z_gP_wI, z_nx_wI, z_rc_wI, z_rs_wI, z_em_wI, z_mi_wI, z_kd_wJ, z_ln_wJ, z_gI_wJ, z_gJ_wJ, z_gP_wJ, z_nx_wJ, z_rc_wJ, z_rs_wJ, z_em_wJ, z_mi_wJ, hn, eq_self, if_true]) (by simp only [z_kd_sI, z_ln_sI, z_gI_sI, z_gJ_sI, z_gP_sI, z_nx_sI, z_rc_sI, z_rs_sI, z_em_sI, z_mi_sI, z_kd_sJ, z_ln_sJ, z_gI_sJ, z_gJ_sJ, z_gP_sJ, z_nx_sJ, z_rc_sJ, z_rs_sJ, z_em_sJ, z_mi_sJ, z_kd_sP, z_ln_sP, z_gI_sP, z_gJ_sP, z_gP_sP, z_nx_sP, z_rc_sP, z_rs_sP, z_em_sP, z_mi_sP, z_kd_nw, z_ln_nw, z_gI_nw, z_gJ_nw, z_gP_nw, z_nx_nw, z_rc_nw, z_rs_nw, z_em_nw, z_mi_nw, z_kd_cI, z_ln_cI, z_gI_cI, z_gJ_cI, z_gP_cI, z_nx_cI, z_rc_cI, z_rs_cI, z_em_cI, z_mi_cI, z_kd_cP, z_ln_cP, z_gI_cP, z_gJ_cP, z_gP_cP, z_nx_cP, z_rc_cP, z_rs_cP, z_em_cP, z_mi_cP, z_kd_wI, z_ln_wI, z_gI_wI, z_gJ_wI, z_gP_wI, z_nx_wI, z_rc_wI, z_rs_wI, z_em_wI, z_mi_wI, z_kd_wJ, z_ln_wJ, z_gI_wJ, z_gJ_wJ, z_gP_wJ, z_nx_wJ, z_rc_wJ, z_rs_wJ, z_em_wJ, z_mi_wJ, hn]) (by simp only [z_kd_sI, z_ln_sI, z_gI_sI, z_gJ_sI, z_gP_sI, z_nx_sI, z_rc_sI, z_rs_sI, z_em_sI, z_mi_sI, z_kd_sJ, z_ln_sJ, z_gI_sJ, z_gJ_sJ, z_gP_sJ, z_nx_sJ, z_rc_sJ, z_rs_sJ, z_em_sJ, z_mi_sJ, z_kd_sP, z_ln_sP, z_gI_sP, z_gJ_sP, z_gP_sP, z_nx_sP, z_rc_sP, z_rs_sP, z_em_sP, z_mi_sP, z_kd_nw, z_ln_nw, z_gI_nw, z_gJ_nw, z_gP_nw, z_nx_nw, z_rc_nw, z_rs_nw, z_em_nw, z_mi_nw, z_kd_cI, z_ln_cI, z_gI_cI, z_gJ_cI, z_gP_cI, z_nx_cI, z_rc_cI, z_rs_cI, z_em_cI, z_mi_cI, z_kd_cP, z_ln_cP, z_gI_cP, z_gJ_cP, z_gP_cP, z_nx_cP, z_rc_cP, z_rs_cP, z_em_cP, z_mi_cP, z_kd_wI, z_ln_wI, z_gI_wI, z_gJ_wI, z_gP_wI, z_nx_wI, z_rc_wI, z_rs_wI, z_em_wI, z_mi_wI, z_kd_wJ, z_ln_wJ, z_gI_wJ, z_gJ_wJ, z_gP_wJ, z_nx_wJ, z_rc_wJ, z_rs_wJ, z_em_wJ, z_mi_wJ, hn, eq_self, if_true]) (by omega) (by rw [z_rc_nw]; omega) (by rw [z_rs_nw]; omega)) ?_
  rintro _ h1 ⟨rfl, r1, n1, f1⟩
  have n0 : nx_ (nw_ h 10 0 2) = f + 2 := by rw [z_nx_nw, hn]
  have F1 : Fa (fun b _ => b = f) (1 + 1) (2 + 80) h h1 := by
    obtain ⟨x1, x2, x3, x4, x5, x6, x7, x8⟩ := f0
    obtain ⟨y1, y2, y3, y4, y5, y6, y7, y8⟩ := f1
    rw [n0] at y1 y2 y3 y8
    refine ⟨by omega, fun a ha => (y2 a (by omega)).trans (x2 a ha), fun a ha => (y3 a (by omega)).trans (x3 a ha), by omega, by omega, y6.trans x6, y7.trans x7, fun a i ha hn => ?_⟩
    obtain ⟨u1, u2, u3⟩ := x8 a i ha hn
    obtain ⟨v1, v2, v3⟩ := y8 a i (by omega) (by omega)
    exact ⟨v1.trans u1, v2.trans u2, v3.trans u3⟩
  have k1 : kd_ h1 f = 3 := by rw [F1.2.1 f (by omega), hk]
  have rc1 := F1.2.2.2.1
  have rs1 := F1.2.2.2.2.1
  have n2 : nx_ h1 = f + 3 := by rw [n1]
  simp (disch := omega) only [V84, U26_14, U26_17, U26_18, U26_20, U26_22, U26_25, U26_26, U26_28, U26_30, U26_33, U26_34, U26_36, U26_38, U26_41, z_kd_sI, z_ln_sI, z_gI_sI, z_gJ_sI, z_gP_sI, z_nx_sI, z_rc_sI, z_rs_sI, z_em_sI, z_mi_sI, z_kd_sJ, z_ln_sJ, z_gI_sJ, z_gJ_sJ, z_gP_sJ, z_nx_sJ, z_rc_sJ, z_rs_sJ, z_em_sJ, z_mi_sJ, z_kd_sP, z_ln_sP, z_gI_sP, z_gJ_sP, z_gP_sP, z_nx_sP, z_rc_sP, z_rs_sP, z_em_sP, z_mi_sP, z_kd_nw, z_ln_nw, z_gI_nw, z_gJ_nw, z_gP_nw, z_nx_nw, z_rc_nw, z_rs_nw, z_em_nw, z_mi_nw, z_kd_cI, z_ln_cI, z_gI_cI, z_gJ_cI, z_gP_cI, z_nx_cI, z_rc_cI, z_rs_cI, z_em_cI, z_mi_cI, z_kd_cP, z_ln_cP, z_gI_cP, z_gJ_cP, z_gP_cP, z_nx_cP, z_rc_cP, z_rs_cP, z_em_cP, z_mi_cP, z_kd_wI, z_ln_wI, z_gI_wI, z_gJ_wI, z_gP_wI, z_nx_wI, z_rc_wI, z_rs_wI, z_em_wI, z_mi_wI, z_kd_wJ, z_ln_wJ, z_gI_wJ, z_gJ_wJ, z_gP_wJ, z_nx_wJ, z_rc_wJ, z_rs_wJ, z_em_wJ, z_mi_wJ, k1, n2, show ¬ (80 : Nat) < 0 by omega, show ¬ (6 : Nat) < 0 by omega, show (80 : Nat) ≤ 1000000 by decide, show (6 : Nat) ≤ 1000000 by decide, show 1 ≤ rc_ h1 by omega, show 1 ≤ rc_ h1 - 1 by omega, show 1 ≤ rc_ h1 - 1 - 1 by omega, show 80 ≤ rs_ h1 by omega, show 6 ≤ rs_ h1 - 80 by omega, show 6 ≤ rs_ h1 - 80 - 6 by omega, show ¬ f = f + 3 by omega, show ¬ f = f + 3 + 1 by omega, show ¬ f = f + 3 + 1 + 1 by omega, i_add, i_mul, i_sub, i_addn, i_lt, i_eq, i_idx, i_vp, true_and, and_true, false_and, and_false, if_true, if_false, Nat.reduceAdd, Nat.reduceMul, Nat.reduceSub, Nat.reduceEqDiff, Option.some.injEq, exists_eq_left', true_or, or_true, false_or, or_false, not_true_eq_false, not_false_eq_true, eq_self, and_self, Nat.reduceLeDiff, decide_true, decide_false, ne_eq, Nat.left_eq_add, Nat.add_eq_left, Nat.add_left_cancel_iff, Nat.add_zero]
  have g1 := (Fa.rfl' (S := fun b _ => b = f) (h := h1)).sP (a := f) (j := 0) (x := some (f + 1)) (Or.inr rfl)
  have g2 := (g1.nw' (k := 30) (m := 80) (w' := 80) (by simp only [z_kd_sI, z_ln_sI, z_gI_sI, z_gJ_sI, z_gP_sI, z_nx_sI, z_rc_sI, z_rs_sI, z_em_sI, z_mi_sI, z_kd_sJ, z_ln_sJ, z_gI_sJ, z_gJ_sJ, z_gP_sJ, z_nx_sJ, z_rc_sJ, z_rs_sJ, z_em_sJ, z_mi_sJ, z_kd_sP, z_ln_sP, z_gI_sP, z_gJ_sP, z_gP_sP, z_nx_sP, z_rc_sP, z_rs_sP, z_em_sP, z_mi_sP, z_kd_nw, z_ln_nw, z_gI_nw, z_gJ_nw, z_gP_nw, z_nx_nw, z_rc_nw, z_rs_nw, z_em_nw, z_mi_nw, z_kd_cI, z_ln_cI, z_gI_cI, z_gJ_cI, z_gP_cI, z_nx_cI, z_rc_cI, z_rs_cI, z_em_cI, z_mi_cI, z_kd_cP, z_ln_cP, z_gI_cP, z_gJ_cP, z_gP_cP, z_nx_cP, z_rc_cP, z_rs_cP, z_em_cP, z_mi_cP, z_kd_wI, z_ln_wI, z_gI_wI, z_gJ_wI, z_gP_wI, z_nx_wI, z_rc_wI, z_rs_wI, z_em_wI, z_mi_wI, z_kd_wJ, z_ln_wJ, z_gI_wJ, z_gJ_wJ, z_gP_wJ, z_nx_wJ, z_rc_wJ, z_rs_wJ, z_em_wJ, z_mi_wJ]; omega) (by simp only [z_kd_sI, z_ln_sI, z_gI_sI, z_gJ_sI, z_gP_sI, z_nx_sI, z_rc_sI, z_rs_sI, z_em_sI, z_mi_sI, z_kd_sJ, z_ln_sJ, z_gI_sJ, z_gJ_sJ, z_gP_sJ, z_nx_sJ, z_rc_sJ, z_rs_sJ, z_em_sJ, z_mi_sJ, z_kd_sP, z_ln_sP, z_gI_sP, z_gJ_sP, z_gP_sP, z_nx_sP, z_rc_sP, z_rs_sP, z_em_sP, z_mi_sP, z_kd_nw, z_ln_nw, z_gI_nw, z_gJ_nw, z_gP_nw, z_nx_nw, z_rc_nw, z_rs_nw, z_em_nw, z_mi_nw, z_kd_cI, z_ln_cI, z_gI_cI, z_gJ_cI, z_gP_cI, z_nx_cI, z_rc_cI, z_rs_cI, z_em_cI, z_mi_cI, z_kd_cP, z_ln_cP, z_gI_cP, z_gJ_cP, z_gP_cP, z_nx_cP, z_rc_cP, z_rs_cP, z_em_cP, z_mi_cP, z_kd_wI, z_ln_wI, z_gI_wI, z_gJ_wI, z_gP_wI, z_nx_wI, z_rc_wI, z_rs_wI, z_em_wI, z_mi_wI, z_kd_wJ, z_ln_wJ, z_gI_wJ, z_gJ_wJ, z_gP_wJ, z_nx_wJ, z_rc_wJ, z_rs_wJ, z_em_wJ, z_mi_wJ]; omega)).sP (a := f) (j := 1) (x := some (f + 3)) (Or.inr rfl)
  have g3 := (g2.nw' (k := 30) (m := 6) (w' := 6) (by simp only [z_kd_sI, z_ln_sI, z_gI_sI, z_gJ_sI, z_gP_sI, z_nx_sI, z_rc_sI, z_rs_sI, z_em_sI, z_mi_sI, z_kd_sJ, z_ln_sJ, z_gI_sJ, z_gJ_sJ, z_gP_sJ, z_nx_sJ, z_rc_sJ, z_rs_sJ, z_em_sJ, z_mi_sJ, z_kd_sP, z_ln_sP, z_gI_sP, z_gJ_sP, z_gP_sP, z_nx_sP, z_rc_sP, z_rs_sP, z_em_sP, z_mi_sP, z_kd_nw, z_ln_nw, z_gI_nw, z_gJ_nw, z_gP_nw, z_nx_nw, z_rc_nw, z_rs_nw, z_em_nw, z_mi_nw, z_kd_cI, z_ln_cI, z_gI_cI, z_gJ_cI, z_gP_cI, z_nx_cI, z_rc_cI, z_rs_cI, z_em_cI, z_mi_cI, z_kd_cP, z_ln_cP, z_gI_cP, z_gJ_cP, z_gP_cP, z_nx_cP, z_rc_cP, z_rs_cP, z_em_cP, z_mi_cP, z_kd_wI, z_ln_wI, z_gI_wI, z_gJ_wI, z_gP_wI, z_nx_wI, z_rc_wI, z_rs_wI, z_em_wI, z_mi_wI, z_kd_wJ, z_ln_wJ, z_gI_wJ, z_gJ_wJ, z_gP_wJ, z_nx_wJ, z_rc_wJ, z_rs_wJ, z_em_wJ, z_mi_wJ]; omega) (by simp only [z_kd_sI, z_ln_sI, z_gI_sI, z_gJ_sI, z_gP_sI, z_nx_sI, z_rc_sI, z_rs_sI, z_em_sI, z_mi_sI, z_kd_sJ, z_ln_sJ, z_gI_sJ, z_gJ_sJ, z_gP_sJ, z_nx_sJ, z_rc_sJ, z_rs_sJ, z_em_sJ, z_mi_sJ, z_kd_sP, z_ln_sP, z_gI_sP, z_gJ_sP, z_gP_sP, z_nx_sP, z_rc_sP, z_rs_sP, z_em_sP, z_mi_sP, z_kd_nw, z_ln_nw, z_gI_nw, z_gJ_nw, z_gP_nw, z_nx_nw, z_rc_nw, z_rs_nw, z_em_nw, z_mi_nw, z_kd_cI, z_ln_cI, z_gI_cI, z_gJ_cI, z_gP_cI, z_nx_cI, z_rc_cI, z_rs_cI, z_em_cI, z_mi_cI, z_kd_cP, z_ln_cP, z_gI_cP, z_gJ_cP, z_gP_cP, z_nx_cP, z_rc_cP, z_rs_cP, z_em_cP, z_mi_cP, z_kd_wI, z_ln_wI, z_gI_wI, z_gJ_wI, z_gP_wI, z_nx_wI, z_rc_wI, z_rs_wI, z_em_wI, z_mi_wI, z_kd_wJ, z_ln_wJ, z_gI_wJ, z_gJ_wJ, z_gP_wJ, z_nx_wJ, z_rc_wJ, z_rs_wJ, z_em_wJ, z_mi_wJ]; omega)).sP (a := f) (j := 2) (x := some (f + 3 + 1)) (Or.inr rfl)
  have g4 := (g3.nw' (k := 30) (m := 6) (w' := 6) (by simp only [z_kd_sI, z_ln_sI, z_gI_sI, z_gJ_sI, z_gP_sI, z_nx_sI, z_rc_sI, z_rs_sI, z_em_sI, z_mi_sI, z_kd_sJ, z_ln_sJ, z_gI_sJ, z_gJ_sJ, z_gP_sJ, z_nx_sJ, z_rc_sJ, z_rs_sJ, z_em_sJ, z_mi_sJ, z_kd_sP, z_ln_sP, z_gI_sP, z_gJ_sP, z_gP_sP, z_nx_sP, z_rc_sP, z_rs_sP, z_em_sP, z_mi_sP, z_kd_nw, z_ln_nw, z_gI_nw, z_gJ_nw, z_gP_nw, z_nx_nw, z_rc_nw, z_rs_nw, z_em_nw, z_mi_nw, z_kd_cI, z_ln_cI, z_gI_cI, z_gJ_cI, z_gP_cI, z_nx_cI, z_rc_cI, z_rs_cI, z_em_cI, z_mi_cI, z_kd_cP, z_ln_cP, z_gI_cP, z_gJ_cP, z_gP_cP, z_nx_cP, z_rc_cP, z_rs_cP, z_em_cP, z_mi_cP, z_kd_wI, z_ln_wI, z_gI_wI, z_gJ_wI, z_gP_wI, z_nx_wI, z_rc_wI, z_rs_wI, z_em_wI, z_mi_wI, z_kd_wJ, z_ln_wJ, z_gI_wJ, z_gJ_wJ, z_gP_wJ, z_nx_wJ, z_rc_wJ, z_rs_wJ, z_em_wJ, z_mi_wJ]; omega) (by simp only [z_kd_sI, z_ln_sI, z_gI_sI, z_gJ_sI, z_gP_sI, z_nx_sI, z_rc_sI, z_rs_sI, z_em_sI, z_mi_sI, z_kd_sJ, z_ln_sJ, z_gI_sJ, z_gJ_sJ, z_gP_sJ, z_nx_sJ, z_rc_sJ, z_rs_sJ, z_em_sJ, z_mi_sJ, z_kd_sP, z_ln_sP, z_gI_sP, z_gJ_sP, z_gP_sP, z_nx_sP, z_rc_sP, z_rs_sP, z_em_sP, z_mi_sP, z_kd_nw, z_ln_nw, z_gI_nw, z_gJ_nw, z_gP_nw, z_nx_nw, z_rc_nw, z_rs_nw, z_em_nw, z_mi_nw, z_kd_cI, z_ln_cI, z_gI_cI, z_gJ_cI, z_gP_cI, z_nx_cI, z_rc_cI, z_rs_cI, z_em_cI, z_mi_cI, z_kd_cP, z_ln_cP, z_gI_cP, z_gJ_cP, z_gP_cP, z_nx_cP, z_rc_cP, z_rs_cP, z_em_cP, z_mi_cP, z_kd_wI, z_ln_wI, z_gI_wI, z_gJ_wI, z_gP_wI, z_nx_wI, z_rc_wI, z_rs_wI, z_em_wI, z_mi_wI, z_kd_wJ, z_ln_wJ, z_gI_wJ, z_gJ_wJ, z_gP_wJ, z_nx_wJ, z_rc_wJ, z_rs_wJ, z_em_wJ, z_mi_wJ]; omega)).sP (a := f) (j := 3) (x := some (f + 3 + 1 + 1)) (Or.inr rfl)
  refine ⟨?_, r1.ag (g4.ag (by omega) (by intro a i z w; omega)), (F1.trans g4).mono (fun _ _ _ z => z) (by omega) (by omega)⟩
  unfold Fs
  simp [z_kd_sI, z_ln_sI, z_gI_sI, z_gJ_sI, z_gP_sI, z_nx_sI, z_rc_sI, z_rs_sI, z_em_sI, z_mi_sI, z_kd_sJ, z_ln_sJ, z_gI_sJ, z_gJ_sJ, z_gP_sJ, z_nx_sJ, z_rc_sJ, z_rs_sJ, z_em_sJ, z_mi_sJ, z_kd_sP, z_ln_sP, z_gI_sP, z_gJ_sP, z_gP_sP, z_nx_sP, z_rc_sP, z_rs_sP, z_em_sP, z_mi_sP, z_kd_nw, z_ln_nw, z_gI_nw, z_gJ_nw, z_gP_nw, z_nx_nw, z_rc_nw, z_rs_nw, z_em_nw, z_mi_nw, z_kd_cI, z_ln_cI, z_gI_cI, z_gJ_cI, z_gP_cI, z_nx_cI, z_rc_cI, z_rs_cI, z_em_cI, z_mi_cI, z_kd_cP, z_ln_cP, z_gI_cP, z_gJ_cP, z_gP_cP, z_nx_cP, z_rc_cP, z_rs_cP, z_em_cP, z_mi_cP, z_kd_wI, z_ln_wI, z_gI_wI, z_gJ_wI, z_gP_wI, z_nx_wI, z_rc_wI, z_rs_wI, z_em_wI, z_mi_wI, z_kd_wJ, z_ln_wJ, z_gI_wJ, z_gJ_wJ, z_gP_wJ, z_nx_wJ, z_rc_wJ, z_rs_wJ, z_em_wJ, z_mi_wJ, n2, k1]
  exact ⟨by rw [if_neg (by omega), if_neg (by omega)], ⟨by omega, by omega⟩, by omega⟩
