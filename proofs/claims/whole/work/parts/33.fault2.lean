/-! ===== Format: faultIn, whole ===== -/
def PF (res : Nat ⊕ List Tok) (ts : List Tok) (t : List Nat) (f : Nat) (h : MH_) : Rs_ → MH_ → Prop := fun v h' => Fz (SA f) h h' ∧ (∃ sp, Rw h' (f + 1) 80 sp) ∧ match res with
  | .inl q => v = .inl (.int (Int32.ofNat q))
  | .inr us => v = .inl (.int (-(Int32.ofNat 1))) ∧ Fc h' f (ts ++ us) ∧ Rw h' (f + 1) 80 t
theorem PF_cons {x : Tok} {res : Nat ⊕ List Tok} {ts : List Tok} {t : List Nat} {f : Nat} {h : MH_} {v : Rs_} {h' : MH_} (z : PF res (ts ++ [x]) t f h v h') : PF (tcons x res) ts t f h v h' := by
  cases res with
  | inl q => exact z
  | inr us =>
    refine ⟨z.1, z.2.1, z.2.2.1, ?_, z.2.2.2.2⟩
    have := z.2.2.2.1
    rwa [List.append_assoc, List.singleton_append] at this
theorem slts_s {ts : List Tok} {b : Nat} : (slts (ts ++ [.inl b])).length = (slts ts).length := by
  rw [slts_app]; simp [slts]
theorem slts_q {ts : List Tok} {q : Nat × Nat} : (slts (ts ++ [.inr q])).length = (slts ts).length + 1 := by
  rw [slts_app]; simp [slts]
section Fq
variable {h : MH_} {f r c : Nat} {t : List Nat}
theorem fq (ap : r + 2 ≤ f ∨ f + 6 ≤ r) (hrr : Rw h r c t) : ∀ N rest, rest.length ≤ N → ∀ p ts u k d y, t.drop p = rest → FR u f ts 0 k d → Rw u r c t → Rw u (f + 1) 80 (t.take p) → p ≤ 80 → p ≤ t.length → ts.length ≤ p → Fz (SA f) h u → Wp 29 24 [.ref f, .ref r, .int (Int32.ofNat p), y] [] u (PF (fm rest p (slts ts).length) ts t f h) := by
  intro N
  induction N with
  | zero =>
    intro rest hN p ts u k d y hd hf hr hsp hp hpt hl hz
    have e : rest = [] := List.eq_nil_of_length_eq_zero (by omega)
    subst e
    have h1 := dr_nil hd
    refine it_end (by omega) hf (by omega) hr ?_
    rw [if_pos rfl]
    refine ⟨hz, ⟨_, hsp⟩, ?_⟩
    rw [fm]
    refine ⟨rfl, by rw [List.append_nil]; exact hf.2.1, ?_⟩
    rwa [List.take_of_length_le h1] at hsp
  | succ N ih =>
    intro rest hN p ts u k d y hd hf hr hsp hp hpt hl hz
    cases rest with
    | nil => exact ih [] (Nat.zero_le _) p ts u k d y hd hf hr hsp hp hpt hl hz
    | cons b r0 =>
      rw [List.length_cons] at hN
      obtain ⟨q1, q2, q3, q4⟩ := dr_cons hd
      have hb256 : b < 256 := by have := hr.lt p; omega
      have hspl : (t.take p).length = p := by rw [List.length_take]; omega
      have stop : ∀ q u' sp, fm (b :: r0) p (slts ts).length = .inl q → Fz (SA f) h u' → Rw u' (f + 1) 80 sp → PF (fm (b :: r0) p (slts ts).length) ts t f h (.inl (.int (Int32.ofNat q))) u' := by
        intro q u' sp e z w
        rw [e]
        exact ⟨z, ⟨_, w⟩, rfl⟩
      have stop2 : ∀ q u1 u' sp, fm (b :: r0) p (slts ts).length = .inl q → Fz (SA f) h u1 → Rw u1 (f + 1) 80 sp → Fz (SF f) u1 u' → PF (fm (b :: r0) p (slts ts).length) ts t f h (.inl (.int (Int32.ofNat q))) u' := by
        intro q u1 u' sp e z w z2
        exact stop q u' sp e (z.trans (z2.mono (fun a i x => Or.inl x))) (w.fz z2 (by unfold SR SF; intro a i y1 y2; omega))
      by_cases h1 : p < 80 ∧ sg b
      · obtain ⟨h80, hs⟩ := h1
        by_cases hb1 : b = 125
        · subst hb1
          refine it_go q1 h80 hf (by omega) hr hsp (by omega) ap q2 hs (by omega) (takes0b hf) ?_
          intro u1 f1 r1 s1 z1
          have z1 := hz.trans z1
          cases r0 with
          | nil =>
            have h2 := dr_nil q3
            refine it_end (by omega) f1 (by omega) r1 ?_
            rw [if_neg (by decide)]
            exact stop (p + 1) u1 _ (by rw [fm.eq_def]; dsimp only; rw [if_neg (fun z => z ⟨h80, hs⟩), if_pos rfl]) z1 s1
          | cons c0 r' =>
            rw [List.length_cons] at hN
            obtain ⟨v1, v2, v3, v4⟩ := dr_cons q3
            have hc256 : c0 < 256 := by have := hr.lt (p + 1); omega
            by_cases h2 : p + 1 < 80 ∧ c0 = 125
            · obtain ⟨h81, rfl⟩ := h2
              have T := takes4 (b := 125) f1 (by omega) (by omega)
              rw [← bz_t (p := 125 = 125) rfl] at T
              refine it_go v1 h81 f1 (by omega) r1 s1 (by rw [List.length_append, List.length_singleton]; omega) ap v2 hs (by omega) T ?_
              intro u2 f2 r2 s2 z2
              rw [← q4, ← v4] at s2
              refine Wp_use (ih r' (by omega) (p + 2) _ u2 _ _ _ v3 f2 r2 s2 (by omega) (by omega) (by rw [List.length_append, List.length_singleton]; omega) (z1.trans z2)) ?_
              intro v h' z
              rw [slts_s] at z
              rw [fm.eq_def]; dsimp only; rw [if_neg (fun z => z ⟨h80, hs⟩), if_pos rfl]
              simp only [h81, and_self, if_true]
              exact PF_cons z
            · have e : fm (125 :: c0 :: r') p (slts ts).length = .inl (p + 1) := by
                rw [fm.eq_def]; dsimp only; rw [if_neg (fun z => z ⟨h80, hs⟩), if_pos rfl]
                simp only [h2, if_false]
              by_cases h81 : p + 1 < 80
              · by_cases hs2 : sg c0
                · have T := takes4 (b := c0) f1 (by omega) hc256
                  rw [← bz_f (p := c0 = 125) (fun z => h2 ⟨h81, z⟩)] at T
                  exact it_stop2 v1 h81 f1 (by omega) r1 v2 hs2 (by omega) (Wp_use T (fun _ _ z => ⟨z.1, z.2.2⟩)) (fun u' z => stop2 _ u1 u' _ e z1 s1 z)
                · exact it_stop1 v1 f1 (by omega) r1 v2 (Or.inr (Or.inl hs2)) (stop _ u1 _ e z1 s1)
              · exact it_stop1 v1 f1 (by omega) r1 v2 (Or.inl (by omega)) (stop _ u1 _ e z1 s1)
        · by_cases hb2 : b = 123
          · subst hb2
            have fe : ∀ x, (if ¬ (p < 80 ∧ sg 123) then (.inl p : Nat ⊕ List Tok) else x) = x := fun x => if_neg (fun z => z ⟨h80, hs⟩)
            cases r0 with
            | nil =>
              have h2 := dr_nil q3
              have h3 : ¬ t.getD (p + 1) 0 = 123 := by rw [gD_out (by omega)]; decide
              have e : fm [123] p (slts ts).length = if (slts ts).length = 6 then .inl p else .inl (p + 1) := by
                rw [fm.eq_def]; dsimp only; rw [fe, if_neg (by decide), if_neg (by decide)]
              by_cases h6 : (slts ts).length = 6
              · rw [if_pos h6] at e
                exact it_stop1 q1 hf (by omega) hr q2 (Or.inr (Or.inr ⟨rfl, h6, rfl, h3⟩)) (stop p u _ e hz hsp)
              · rw [if_neg h6] at e
                refine it_go q1 h80 hf (by omega) hr hsp (by omega) ap q2 hs (fun z => h6 z.2.1) (takes0a hf) ?_
                intro u1 f1 r1 s1 z1
                refine it_end (by omega) f1 (by omega) r1 ?_
                rw [if_neg (by decide)]
                exact stop (p + 1) u1 _ e (hz.trans z1) s1
            | cons c0 r' =>
              rw [List.length_cons] at hN
              obtain ⟨v1, v2, v3, v4⟩ := dr_cons q3
              have hc256 : c0 < 256 := by have := hr.lt (p + 1); omega
              by_cases hc1 : c0 = 123
              · subst hc1
                have e : fm (123 :: 123 :: r') p (slts ts).length = if p + 1 < 80 then tcons (.inl 123) (fm r' (p + 2) (slts ts).length) else .inl (p + 1) := by
                  rw [fm.eq_def]; dsimp only; rw [fe, if_neg (by decide), if_neg (by decide), if_pos rfl]
                refine it_go q1 h80 hf (by omega) hr hsp (by omega) ap q2 hs (fun z => z.2.2.2 v2) (takes0a hf) ?_
                intro u1 f1 r1 s1 z1
                have z1 := hz.trans z1
                by_cases h81 : p + 1 < 80
                · rw [if_pos h81] at e
                  refine it_go v1 h81 f1 (by omega) r1 s1 (by rw [List.length_append, List.length_singleton]; omega) ap v2 hs (by omega) (takes1a f1 (by omega)) ?_
                  intro u2 f2 r2 s2 z2
                  rw [← q4, ← v4] at s2
                  refine Wp_use (ih r' (by omega) (p + 2) _ u2 _ _ _ v3 f2 r2 s2 (by omega) (by omega) (by rw [List.length_append, List.length_singleton]; omega) (z1.trans z2)) ?_
                  intro v h' z
                  rw [slts_s] at z
                  rw [e]
                  exact PF_cons z
                · rw [if_neg h81] at e
                  exact it_stop1 v1 f1 (by omega) r1 v2 (Or.inl (by omega)) (stop _ u1 _ e z1 s1)
              · by_cases h6 : (slts ts).length = 6
                · have e : fm (123 :: c0 :: r') p (slts ts).length = .inl p := by
                    rw [fm.eq_def]; dsimp only; rw [fe, if_neg (by decide), if_neg (by decide), if_neg hc1, if_pos h6]
                  exact it_stop1 q1 hf (by omega) hr q2 (Or.inr (Or.inr ⟨rfl, h6, rfl, by rw [v2]; exact hc1⟩)) (stop p u _ e hz hsp)
                · have hn6 : (slts ts).length < 6 := by have := hf.2.1.2.2.2.1; omega
                  refine it_go q1 h80 hf (by omega) hr hsp (by omega) ap q2 hs (fun z => h6 z.2.1) (takes0a hf) ?_
                  intro u1 f1 r1 s1 z1
                  have z1 := hz.trans z1
                  by_cases h81 : p + 1 < 80
                  · by_cases hk : c0 = 102 ∨ c0 = 101
                    · have hs1 : sg c0 := by unfold sg; omega
                      refine it_go v1 h81 f1 (by omega) r1 s1 (by rw [List.length_append, List.length_singleton]; omega) ap v2 hs1 (by omega) (takes1b f1 hn6 hc256 hc1 hk) ?_
                      intro u2 f2 r2 s2 z2
                      have z2 := z1.trans z2
                      cases r' with
                      | nil =>
                        have h2 := dr_nil v3
                        refine it_end (by omega) f2 (by omega) r2 ?_
                        rw [if_neg (by decide)]
                        exact stop (p + 2) u2 _ (by rw [fm.eq_def]; dsimp only; rw [fe, if_neg (by decide), if_neg (by decide), if_neg hc1, if_neg h6, if_neg (fun z => z h81), if_pos hk]) z2 s2
                      | cons d0 r2' =>
                        rw [List.length_cons] at hN
                        obtain ⟨w1, w2, w3, w4⟩ := dr_cons v3
                        have hd256 : d0 < 256 := by have := hr.lt (p + 1 + 1); omega
                        have hs2l : ((t.take p ++ [123]) ++ [c0]).length = p + 2 := by simp only [List.length_append, List.length_singleton, hspl]
                        have e1 : fm (123 :: c0 :: d0 :: r2') p (slts ts).length = (if p + 2 < 80 ∧ ((c0 = 102 ∧ 49 ≤ d0 ∧ d0 ≤ 54) ∨ (c0 = 101 ∧ 48 ≤ d0 ∧ d0 ≤ 55)) then (match (generalizing := false) r2' with | [] => .inl (p + 3) | e :: r3 => if p + 3 < 80 ∧ e = 125 then tcons (.inr (c0, d0 - 48)) (fm r3 (p + 4) ((slts ts).length + 1)) else .inl (p + 3)) else .inl (p + 2)) := by
                          rw [fm.eq_def]; dsimp only; rw [fe, if_neg (by decide), if_neg (by decide), if_neg hc1, if_neg h6, if_neg (fun z => z h81), if_pos hk]
                          rfl
                        by_cases hg : p + 2 < 80 ∧ ((c0 = 102 ∧ 49 ≤ d0 ∧ d0 ≤ 54) ∨ (c0 = 101 ∧ 48 ≤ d0 ∧ d0 ≤ 55))
                        · rw [if_pos hg] at e1
                          have hs2 : sg d0 := by unfold sg; omega
                          have T := takes2 f2 hd256 hk (by omega)
                          rw [← bz_t hg.2] at T
                          refine it_go w1 (by omega) f2 (by omega) r2 s2 (by omega) ap w2 hs2 (by omega) T ?_
                          intro u3 f3 r3 s3 z3
                          have z3 := z2.trans z3
                          cases r2' with
                          | nil =>
                            have h2 := dr_nil w3
                            refine it_end (by omega) f3 (by omega) r3 ?_
                            rw [if_neg (by decide)]
                            exact stop (p + 3) u3 _ e1 z3 s3
                          | cons e0 r3' =>
                            rw [List.length_cons] at hN
                            obtain ⟨x1, x2, x3, x4⟩ := dr_cons w3
                            have he256 : e0 < 256 := by have := hr.lt (p + 1 + 1 + 1); omega
                            dsimp only at e1
                            by_cases hh : p + 3 < 80 ∧ e0 = 125
                            · rw [if_pos hh] at e1
                              obtain ⟨h83, rfl⟩ := hh
                              have T := takes3 (b := 125) f3 (by omega) (by omega)
                              rw [← bz_t (p := 125 = 125) rfl] at T
                              refine it_go x1 h83 f3 (by omega) r3 s3 (by rw [List.length_append, hs2l]; exact h83) ap x2 (by unfold sg; omega) (by omega) T ?_
                              intro u4 f4 r4 s4 z4
                              rw [← q4, ← v4, ← w4, ← x4] at s4
                              refine Wp_use (ih r3' (by omega) (p + 4) _ u4 _ _ _ x3 f4 r4 s4 (by omega) (by omega) (by rw [List.length_append, List.length_singleton]; omega) (z3.trans z4)) ?_
                              intro v h' z
                              rw [slts_q] at z
                              rw [e1]
                              exact PF_cons z
                            · rw [if_neg hh] at e1
                              by_cases h83 : p + 3 < 80
                              · by_cases hs4 : sg e0
                                · have T := takes3 (b := e0) f3 (by omega) he256
                                  rw [← bz_f (p := e0 = 125) (fun z => hh ⟨h83, z⟩)] at T
                                  exact it_stop2 x1 h83 f3 (by omega) r3 x2 hs4 (by omega) (Wp_use T (fun _ _ z => ⟨z.1, z.2.2⟩)) (fun u' z => stop2 _ u3 u' _ e1 z3 s3 z)
                                · exact it_stop1 x1 f3 (by omega) r3 x2 (Or.inr (Or.inl hs4)) (stop _ u3 _ e1 z3 s3)
                              · exact it_stop1 x1 f3 (by omega) r3 x2 (Or.inl (by omega)) (stop _ u3 _ e1 z3 s3)
                        · rw [if_neg hg] at e1
                          by_cases h82 : p + 2 < 80
                          · by_cases hs2 : sg d0
                            · by_cases h48 : d0 < 48
                              · exact it_stop2 w1 h82 f2 (by omega) r2 w2 hs2 (by omega) (takes2' f2 h48) (fun u' z => stop2 _ u2 u' _ e1 z2 s2 z)
                              · have T := takes2 f2 hd256 hk (by omega)
                                rw [← bz_f (fun z => hg ⟨h82, z⟩)] at T
                                exact it_stop2 w1 h82 f2 (by omega) r2 w2 hs2 (by omega) (Wp_use T (fun _ _ z => ⟨z.1, z.2.2⟩)) (fun u' z => stop2 _ u2 u' _ e1 z2 s2 z)
                            · exact it_stop1 w1 f2 (by omega) r2 w2 (Or.inr (Or.inl hs2)) (stop _ u2 _ e1 z2 s2)
                          · exact it_stop1 w1 f2 (by omega) r2 w2 (Or.inl (by omega)) (stop _ u2 _ e1 z2 s2)
                    · by_cases hk2 : c0 = 100 ∨ c0 = 117 ∨ c0 = 120 ∨ c0 = 116
                      · have hs1 : sg c0 := by unfold sg; omega
                        have T := takes1c f1 hn6 hc256 hc1 hk
                        rw [← bz_t hk2] at T
                        refine it_go v1 h81 f1 (by omega) r1 s1 (by rw [List.length_append, List.length_singleton]; omega) ap v2 hs1 (by omega) T ?_
                        intro u2 f2 r2 s2 z2
                        have z2 := z1.trans z2
                        cases r' with
                        | nil =>
                          have h2 := dr_nil v3
                          refine it_end (by omega) f2 (by omega) r2 ?_
                          rw [if_neg (by decide)]
                          exact stop (p + 2) u2 _ (by rw [fm.eq_def]; dsimp only; rw [fe, if_neg (by decide), if_neg (by decide), if_neg hc1, if_neg h6, if_neg (fun z => z h81), if_neg hk, if_pos hk2]) z2 s2
                        | cons e0 r2' =>
                          rw [List.length_cons] at hN
                          obtain ⟨w1, w2, w3, w4⟩ := dr_cons v3
                          have he256 : e0 < 256 := by have := hr.lt (p + 1 + 1); omega
                          have hs2l : ((t.take p ++ [123]) ++ [c0]).length = p + 2 := by simp only [List.length_append, List.length_singleton, hspl]
                          have e1 : fm (123 :: c0 :: e0 :: r2') p (slts ts).length = if p + 2 < 80 ∧ e0 = 125 then tcons (.inr (c0, 0)) (fm r2' (p + 3) ((slts ts).length + 1)) else .inl (p + 2) := by
                            rw [fm.eq_def]; dsimp only; rw [fe, if_neg (by decide), if_neg (by decide), if_neg hc1, if_neg h6, if_neg (fun z => z h81), if_neg hk, if_pos hk2]
                          by_cases hh : p + 2 < 80 ∧ e0 = 125
                          · rw [if_pos hh] at e1
                            obtain ⟨h82, rfl⟩ := hh
                            have T := takes3 (b := 125) f2 (by omega) (by omega)
                            rw [← bz_t (p := 125 = 125) rfl] at T
                            refine it_go w1 h82 f2 (by omega) r2 s2 (by rw [hs2l]; exact h82) ap w2 (by unfold sg; omega) (by omega) T ?_
                            intro u3 f3 r3 s3 z3
                            rw [← q4, ← v4, ← w4] at s3
                            refine Wp_use (ih r2' (by omega) (p + 3) _ u3 _ _ _ w3 f3 r3 s3 (by omega) (by omega) (by rw [List.length_append, List.length_singleton]; omega) (z2.trans z3)) ?_
                            intro v h' z
                            rw [slts_q] at z
                            rw [e1]
                            exact PF_cons z
                          · rw [if_neg hh] at e1
                            by_cases h82 : p + 2 < 80
                            · by_cases hs4 : sg e0
                              · have T := takes3 (b := e0) f2 (by omega) he256
                                rw [← bz_f (p := e0 = 125) (fun z => hh ⟨h82, z⟩)] at T
                                exact it_stop2 w1 h82 f2 (by omega) r2 w2 hs4 (by omega) (Wp_use T (fun _ _ z => ⟨z.1, z.2.2⟩)) (fun u' z => stop2 _ u2 u' _ e1 z2 s2 z)
                              · exact it_stop1 w1 f2 (by omega) r2 w2 (Or.inr (Or.inl hs4)) (stop _ u2 _ e1 z2 s2)
                            · exact it_stop1 w1 f2 (by omega) r2 w2 (Or.inl (by omega)) (stop _ u2 _ e1 z2 s2)
                      · have e1 : fm (123 :: c0 :: r') p (slts ts).length = .inl (p + 1) := by
                          rw [fm.eq_def]; dsimp only; rw [fe, if_neg (by decide), if_neg (by decide), if_neg hc1, if_neg h6, if_neg (fun z => z h81), if_neg hk, if_neg hk2]
                        by_cases hs1 : sg c0
                        · have T := takes1c f1 hn6 hc256 hc1 hk
                          rw [← bz_f hk2] at T
                          exact it_stop2 v1 h81 f1 (by omega) r1 v2 hs1 (by omega) (Wp_use T (fun _ _ z => ⟨z.1, z.2.2⟩)) (fun u' z => stop2 _ u1 u' _ e1 z1 s1 z)
                        · exact it_stop1 v1 f1 (by omega) r1 v2 (Or.inr (Or.inl hs1)) (stop _ u1 _ e1 z1 s1)
                  · have e1 : fm (123 :: c0 :: r') p (slts ts).length = .inl (p + 1) := by
                      rw [fm.eq_def]; dsimp only; rw [fe, if_neg (by decide), if_neg (by decide), if_neg hc1, if_neg h6, if_pos h81]
                    exact it_stop1 v1 f1 (by omega) r1 v2 (Or.inl (by omega)) (stop _ u1 _ e1 z1 s1)
          · refine it_go q1 h80 hf (by omega) hr hsp (by omega) ap q2 hs (fun z => hb2 z.2.2.1) (takes0c hf (by omega) hb256 hb2 hb1) ?_
            intro u1 f1 r1 s1 z1
            rw [← q4] at s1
            refine Wp_use (ih r0 (by omega) (p + 1) _ u1 _ _ _ q3 f1 r1 s1 (by omega) (by omega) (by rw [List.length_append, List.length_singleton]; omega) (hz.trans z1)) ?_
            intro v h' z
            rw [slts_s] at z
            rw [fm.eq_def]; dsimp only; rw [if_neg (fun z => z ⟨h80, hs⟩), if_neg hb1, if_pos hb2]
            exact PF_cons z
      · refine it_stop1 q1 hf (by omega) hr q2 ?_ (stop p u _ (by rw [fm.eq_def]; dsimp only; rw [if_pos h1]) hz hsp)
        by_cases h80 : p < 80
        · exact Or.inr (Or.inl (fun z => h1 ⟨h80, z⟩))
        · exact Or.inl (by omega)
end Fq
