/-! ===== the class: names, terms, the file's bytes ===== -/
section
variable {h h' : MH_} {x B C n w : Nat} {T : Nat → Nat → Prop} {tx : List Nat} {si : List (List Tok)} {nm : Nat → List Nat} {ar : List Arg} {wr : Nat → Wr} {fl : List Nat} {du : Nat} {cu : Bool} {es : List Ev} {br : Nat} {tm : List Tm}
def nmOk (t c : Int32) : Prop := ¬ (t < Int32.ofNat 0 ∨ Int32.ofNat 7 < t ∨ c < Int32.ofNat 0 ∨ Int32.ofNat 31 < c)
def nmD (t c : Int32) : Decidable (nmOk t c) := inferInstanceAs (Decidable (¬ (_ ∨ _ ∨ _ ∨ _)))
def nmT (tx : List Nat) : Prop := 1 ≤ tx.length ∧ tx.length ≤ 12 ∧ prn tx = true
def nmU (tx : List Nat) : Decidable (nmT tx) := inferInstanceAs (Decidable (_ ∧ _ ∧ _))
theorem Names_hasI {t c : Int32} {Q : Rs_ → MH_ → Prop} : Wp 63 0 [.int t, .int c] [] h Q ↔ Q (.inl (.int (@bz (nmOk t c) (nmD t c)))) h := by
  by_cases ht : t < Int32.ofNat 0
  · rw [Names_has_n (Or.inl ht), @bz_f _ (nmD t c) (fun z => z (Or.inl ht))]
  · by_cases hc : c < Int32.ofNat 0
    · rw [Names_has_n (Or.inr hc), @bz_f _ (nmD t c) (fun z => z (Or.inr (Or.inr (Or.inl hc))))]
    · obtain ⟨a, ha, rfl⟩ := i_nat ht
      obtain ⟨b, hb, rfl⟩ := i_nat hc
      rw [Names_has ha hb]
      by_cases hh : a < 8 ∧ b < 32
      · rw [← bz_t hh, @bz_t _ (nmD _ _) (show nmOk (Int32.ofNat a) (Int32.ofNat b) by unfold nmOk; rw [i_lt ha (by omega), i_lt (by omega) ha, i_lt hb (by omega), i_lt (by omega) hb]; omega)]
      · rw [← bz_f hh, @bz_f _ (nmD _ _) (show ¬ nmOk (Int32.ofNat a) (Int32.ofNat b) by unfold nmOk; rw [i_lt ha (by omega), i_lt (by omega) ha, i_lt hb (by omega), i_lt (by omega) hb]; omega)]
def nmAt (t c : Int32) : Nat := t.toNatClampNeg * 32 + c.toNatClampNeg
def nmS (nm : Nat → List Nat) (t c : Int32) (tx : List Nat) : Nat → List Nat := fun q => if q = nmAt t c then tx else nm q
theorem EL_name {t c : Int32} (E : EL h x (B + 20) (C + 20000) tx si nm ar wr fl du cu es br tm) : Wp 130 0 [.ref x, .int t, .int c, .null] [] h (@ite _ (nmOk t c) (nmD t c) (@ite _ (nmT tx) (nmU tx) (PZ h x B C (.inl .null) [] si (nmS nm t c tx) ar wr fl du cu es br tm) (PZ h x B C (.inr 22) [] si nm ar wr fl du cu es br tm)) (PZ h x B C (.inr 21) [] si nm ar wr fl du cu es br tm)) := by
  have k1 : kd_ h x = 12 := by obtain ⟨t1, t2, a1, a2, d, sA, fs, pl, pr, sr, nA, H, -⟩ := E; exact H.1
  simp (disch := omega) only [U130_0, U130_1, U130_4, U130_5, U130_6, U130_7, U130_10, U130_13, U130_16, U130_21, U130_22, U130_25, U130_26, U130_29, U130_30, U130_33, U130_35, U130_38, U130_39, U130_42, U130_45, U130_48, U130_53, U130_54, U130_57, U130_58, U130_59, U130_60, U130_63, k1, i_add, i_mul, i_sub, i_addn, i_lt, i_eq, i_idx, i_vp, true_and, and_true, false_and, and_false, if_true, if_false, Nat.reduceAdd, Nat.reduceMul, Nat.reduceSub, Nat.reduceEqDiff, Option.some.injEq, exists_eq_left', true_or, or_true, false_or, or_false, not_true_eq_false, not_false_eq_true, eq_self, and_self, Nat.reduceLeDiff, decide_true, decide_false, ne_eq, Nat.left_eq_add, Nat.add_eq_left, Nat.add_left_cancel_iff, Nat.add_zero]
  refine Wp_use (EL_takeTyped E) ?_
  rintro v h1 ⟨u, rfl, hu, rt, f1, E1⟩
  have hS : ∀ a i, (fun (a _ : Nat) => x ≤ a ∧ a < x + 5) a i → SX x a i := fun a i z => Or.inl (by omega)
  have hl := rt.2.2.2.2.2.1
  obtain ⟨rm1, rm2⟩ := E1.room
  have E' := E1
  have hx := E1.nx
  obtain ⟨t1, t2, a1, a2, d, sA, fs, pl, pr, sr, nA, H, Tt, R, P, F, Bq, I, Qq, N, L⟩ := E1
  have H' := H
  obtain ⟨k1', ⟨g0, g1, g2, g3, g4⟩, ⟨g5, g6, g7, g8, g9, g10, g11, g12⟩, g13⟩ := H
  obtain ⟨i1, i2, il, i3⟩ := I
  by_cases c1 : nmOk t c
  · have b1 : ¬ (@bz (nmOk t c) (nmD t c)) = Int32.ofNat 0 := by rw [@bz_0 _ (nmD t c)]; exact fun z => z c1
    have ta : ¬ t < Int32.ofNat 0 := fun z => c1 (Or.inl z)
    have ca : ¬ c < Int32.ofNat 0 := fun z => c1 (Or.inr (Or.inr (Or.inl z)))
    obtain ⟨a, ha, rfl⟩ := i_nat ta
    obtain ⟨b, hb, rfl⟩ := i_nat ca
    have ab : a < 8 ∧ b < 32 := by unfold nmOk at c1; rw [i_lt ha (by omega), i_lt (by omega) ha, i_lt hb (by omega), i_lt (by omega) hb] at c1; omega
    rw [if_pos c1]
    by_cases c2 : nmT tx
    · rw [if_pos c2]
      obtain ⟨d1, d2, d3⟩ := c2
      simp (disch := omega) only [V137, U130_0, U130_1, U130_4, U130_5, U130_6, U130_7, U130_10, U130_13, U130_16, U130_21, U130_22, U130_25, U130_26, U130_29, U130_30, U130_33, U130_35, U130_38, U130_39, U130_42, U130_45, U130_48, U130_53, U130_54, U130_57, U130_58, U130_59, U130_60, U130_63, Names_hasI, V63, b1, rt.1, Row_held rt, V89, Row_isPrintable rt, V90, bz_0, d3, show ¬ tx.length < 1 by omega, show ¬ 12 < tx.length by omega, k1', g10, i1.1, U70_0, U70_1, U70_4, U70_5, U70_6, U70_7, U70_10, i1.2.1, i2.1.1, i_add, i_mul, i_sub, i_addn, i_lt, i_eq, i_idx, i_vp, true_and, and_true, false_and, and_false, if_true, if_false, Nat.reduceAdd, Nat.reduceMul, Nat.reduceSub, Nat.reduceEqDiff, Option.some.injEq, exists_eq_left', true_or, or_true, false_or, or_false, not_true_eq_false, not_false_eq_true, eq_self, and_self, Nat.reduceLeDiff, decide_true, decide_false, ne_eq, Nat.left_eq_add, Nat.add_eq_left, Nat.add_left_cancel_iff, Nat.add_zero]
      refine Wp_use (Names_give i2 rt ab.1 ab.2 d2 (by omega)) ?_
      rintro _ h2 ⟨rfl, n2, f2⟩
      simp (disch := omega) only [V62, U70_0, U70_1, U70_4, U70_5, U70_6, U70_7, U70_10, V70, U130_0, U130_1, U130_4, U130_5, U130_6, U130_7, U130_10, U130_13, U130_16, U130_21, U130_22, U130_25, U130_26, U130_29, U130_30, U130_33, U130_35, U130_38, U130_39, U130_42, U130_45, U130_48, U130_53, U130_54, U130_57, U130_58, U130_59, U130_60, U130_63, i_add, i_mul, i_sub, i_addn, i_lt, i_eq, i_idx, i_vp, true_and, and_true, false_and, and_false, if_true, if_false, Nat.reduceAdd, Nat.reduceMul, Nat.reduceSub, Nat.reduceEqDiff, Option.some.injEq, exists_eq_left', true_or, or_true, false_or, or_false, not_true_eq_false, not_false_eq_true, eq_self, and_self, Nat.reduceLeDiff, decide_true, decide_false, ne_eq, Nat.left_eq_add, Nat.add_eq_left, Nat.add_left_cancel_iff, Nat.add_zero]
      have f3 : Fa (fun a _ => x + 33 ≤ a ∧ a < x + 40) 20 20000 h1 h2 := (f2.mono (fun a i z => by unfold SN at z; omega)).fa.mono (fun _ _ _ z => z) (Nat.zero_le _) (Nat.zero_le _)
      have g := f3.fb
      refine PZ.tr f1 hS _ _ ?_
      refine ⟨rfl, f3.fb.mono (fun a i _ z => Or.inl (by omega)), t1, t2, a1, a2, d, sA, fs, pl, pr, sr, nA, H'.fb g hx (by intro a i z w; omega), Tt.fb g hx (by intro a i z w; omega), R.fb g hx (by intro a i z w; omega), P.fb g hx (by intro a i z w; omega), F.fb g hx (by intro a i z w; omega), Bq.fb g hx (by intro a i z w; omega), ⟨i1.fz f2, ?_, il, i3.fz f2 (by unfold SR SN; intro a i z w; omega)⟩, Qq.fb g hx (by intro a i z w; omega), N.fb' g hx (by intro a i z w; omega), L.fa f3 (by intro a i z w; omega)⟩
      have e : nmS nm (Int32.ofNat a) (Int32.ofNat b) tx = fun q => if q = a * 32 + b then tx else nm q := by unfold nmS nmAt; rw [i_idx ha, i_idx hb]
      rw [e]
      exact n2
    · rw [if_neg c2]
      by_cases d1 : tx.length < 1
      · simp (disch := omega) only [V137, U130_0, U130_1, U130_4, U130_5, U130_6, U130_7, U130_10, U130_13, U130_16, U130_21, U130_22, U130_25, U130_26, U130_29, U130_30, U130_33, U130_35, U130_38, U130_39, U130_42, U130_45, U130_48, U130_53, U130_54, U130_57, U130_58, U130_59, U130_60, U130_63, Names_hasI, V63, b1, rt.1, Row_held rt, V89, d1, show 1 ≤ rc_ h1 by omega, show 6 ≤ rs_ h1 by omega, i_add, i_mul, i_sub, i_addn, i_lt, i_eq, i_idx, i_vp, true_and, and_true, false_and, and_false, if_true, if_false, Nat.reduceAdd, Nat.reduceMul, Nat.reduceSub, Nat.reduceEqDiff, Option.some.injEq, exists_eq_left', true_or, or_true, false_or, or_false, not_true_eq_false, not_false_eq_true, eq_self, and_self, Nat.reduceLeDiff, decide_true, decide_false, ne_eq, Nat.left_eq_add, Nat.add_eq_left, Nat.add_left_cancel_iff, Nat.add_zero]
        exact PZ.tr f1 hS _ _ E'.thr
      · by_cases d2 : 12 < tx.length
        · simp (disch := omega) only [V137, U130_0, U130_1, U130_4, U130_5, U130_6, U130_7, U130_10, U130_13, U130_16, U130_21, U130_22, U130_25, U130_26, U130_29, U130_30, U130_33, U130_35, U130_38, U130_39, U130_42, U130_45, U130_48, U130_53, U130_54, U130_57, U130_58, U130_59, U130_60, U130_63, Names_hasI, V63, b1, rt.1, Row_held rt, V89, d1, d2, show 1 ≤ rc_ h1 by omega, show 6 ≤ rs_ h1 by omega, i_add, i_mul, i_sub, i_addn, i_lt, i_eq, i_idx, i_vp, true_and, and_true, false_and, and_false, if_true, if_false, Nat.reduceAdd, Nat.reduceMul, Nat.reduceSub, Nat.reduceEqDiff, Option.some.injEq, exists_eq_left', true_or, or_true, false_or, or_false, not_true_eq_false, not_false_eq_true, eq_self, and_self, Nat.reduceLeDiff, decide_true, decide_false, ne_eq, Nat.left_eq_add, Nat.add_eq_left, Nat.add_left_cancel_iff, Nat.add_zero]
          exact PZ.tr f1 hS _ _ E'.thr
        · have d3 : ¬ prn tx = true := fun z => c2 ⟨by omega, by omega, z⟩
          simp (disch := omega) only [V137, U130_0, U130_1, U130_4, U130_5, U130_6, U130_7, U130_10, U130_13, U130_16, U130_21, U130_22, U130_25, U130_26, U130_29, U130_30, U130_33, U130_35, U130_38, U130_39, U130_42, U130_45, U130_48, U130_53, U130_54, U130_57, U130_58, U130_59, U130_60, U130_63, Names_hasI, V63, b1, rt.1, Row_held rt, V89, Row_isPrintable rt, V90, bz_0, d1, d2, d3, show 1 ≤ rc_ h1 by omega, show 6 ≤ rs_ h1 by omega, i_add, i_mul, i_sub, i_addn, i_lt, i_eq, i_idx, i_vp, true_and, and_true, false_and, and_false, if_true, if_false, Nat.reduceAdd, Nat.reduceMul, Nat.reduceSub, Nat.reduceEqDiff, Option.some.injEq, exists_eq_left', true_or, or_true, false_or, or_false, not_true_eq_false, not_false_eq_true, eq_self, and_self, Nat.reduceLeDiff, decide_true, decide_false, ne_eq, Nat.left_eq_add, Nat.add_eq_left, Nat.add_left_cancel_iff, Nat.add_zero]
          exact PZ.tr f1 hS _ _ E'.thr
  · have b1 : (@bz (nmOk t c) (nmD t c)) = Int32.ofNat 0 := by rw [@bz_0 _ (nmD t c)]; exact c1
    rw [if_neg c1]
    simp (disch := omega) only [V137, U130_0, U130_1, U130_4, U130_5, U130_6, U130_7, U130_10, U130_13, U130_16, U130_21, U130_22, U130_25, U130_26, U130_29, U130_30, U130_33, U130_35, U130_38, U130_39, U130_42, U130_45, U130_48, U130_53, U130_54, U130_57, U130_58, U130_59, U130_60, U130_63, Names_hasI, V63, b1, show 1 ≤ rc_ h1 by omega, show 6 ≤ rs_ h1 by omega, i_add, i_mul, i_sub, i_addn, i_lt, i_eq, i_idx, i_vp, true_and, and_true, false_and, and_false, if_true, if_false, Nat.reduceAdd, Nat.reduceMul, Nat.reduceSub, Nat.reduceEqDiff, Option.some.injEq, exists_eq_left', true_or, or_true, false_or, or_false, not_true_eq_false, not_false_eq_true, eq_self, and_self, Nat.reduceLeDiff, decide_true, decide_false, ne_eq, Nat.left_eq_add, Nat.add_eq_left, Nat.add_left_cancel_iff, Nat.add_zero]
    exact PZ.tr f1 hS _ _ E'.thr
def whK (k : Int32) : Prop := k < Int32.ofNat 0 ∨ Int32.ofNat 3 < k
def whD (k : Int32) : Decidable (whK k) := inferInstanceAs (Decidable (_ ∨ _))
theorem EL_where {k a b : Int32} (E : EL h x (B + 20) (C + 20000) tx si nm ar wr fl du cu es br tm) : Wp 141 0 [.ref x, .int k, .int a, .int b] [] h (@ite _ (whK k) (whD k) (PZ h x B C (.inr 22) tx si nm ar wr fl du cu es br tm) (if tm.length = 4 then PZ h x B C (.inr 20) tx si nm ar wr fl du cu es br tm else PZ h x B C (.inl (.int (Int32.ofNat (tm.length + 1)))) tx si nm ar wr fl du cu es br (tm ++ [.inl (k.toNatClampNeg, a, b)]))) := by
  have hx := E.nx
  obtain ⟨rm1, rm2⟩ := E.room
  have E' := E
  obtain ⟨t1, t2, a1, a2, d, sA, fs, pl, pr, sr, nA, H, Tt, R, P, F, Bq, I, Qq, N, L⟩ := E
  have H' := H
  obtain ⟨k1', ⟨g0, g1, g2, g3, g4⟩, ⟨g5, g6, g7, g8, g9, g10, g11, g12⟩, g13⟩ := H
  have q4 := Qq.2.2.1
  have kq := Qq.1.1.1
  by_cases c1 : k < Int32.ofNat 0
  · rw [if_pos (show whK k from Or.inl c1)]
    simp (disch := omega) only [U141_0, U141_1, U141_4, U141_5, U141_6, U141_9, U141_12, U141_17, U141_18, U141_21, U141_24, U141_27, U141_30, U141_35, U141_36, U141_39, U141_40, U141_41, U141_42, U141_45, U141_46, U141_49, U141_52, c1, show 1 ≤ rc_ h by omega, show 6 ≤ rs_ h by omega, i_add, i_mul, i_sub, i_addn, i_lt, i_eq, i_idx, i_vp, true_and, and_true, false_and, and_false, if_true, if_false, Nat.reduceAdd, Nat.reduceMul, Nat.reduceSub, Nat.reduceEqDiff, Option.some.injEq, exists_eq_left', true_or, or_true, false_or, or_false, not_true_eq_false, not_false_eq_true, eq_self, and_self, Nat.reduceLeDiff, decide_true, decide_false, ne_eq, Nat.left_eq_add, Nat.add_eq_left, Nat.add_left_cancel_iff, Nat.add_zero]
    exact E'.thr
  · by_cases c2 : Int32.ofNat 3 < k
    · rw [if_pos (show whK k from Or.inr c2)]
      simp (disch := omega) only [U141_0, U141_1, U141_4, U141_5, U141_6, U141_9, U141_12, U141_17, U141_18, U141_21, U141_24, U141_27, U141_30, U141_35, U141_36, U141_39, U141_40, U141_41, U141_42, U141_45, U141_46, U141_49, U141_52, c1, c2, show 1 ≤ rc_ h by omega, show 6 ≤ rs_ h by omega, i_add, i_mul, i_sub, i_addn, i_lt, i_eq, i_idx, i_vp, true_and, and_true, false_and, and_false, if_true, if_false, Nat.reduceAdd, Nat.reduceMul, Nat.reduceSub, Nat.reduceEqDiff, Option.some.injEq, exists_eq_left', true_or, or_true, false_or, or_false, not_true_eq_false, not_false_eq_true, eq_self, and_self, Nat.reduceLeDiff, decide_true, decide_false, ne_eq, Nat.left_eq_add, Nat.add_eq_left, Nat.add_left_cancel_iff, Nat.add_zero]
      exact E'.thr
    · rw [if_neg (fun z => z.elim c1 c2)]
      obtain ⟨m, hm, rfl⟩ := i_nat c1
      rw [i_lt (by omega) hm] at c2
      by_cases c3 : tm.length = 4
      · rw [if_pos c3]
        simp (disch := omega) only [U141_0, U141_1, U141_4, U141_5, U141_6, U141_9, U141_12, U141_17, U141_18, U141_21, U141_24, U141_27, U141_30, U141_35, U141_36, U141_39, U141_40, U141_41, U141_42, U141_45, U141_46, U141_49, U141_52, c2, show ¬ m < 0 by omega, k1', g11, kq, Query_isFull Qq, V82, bz_0, c3, show 1 ≤ rc_ h by omega, show 6 ≤ rs_ h by omega, i_add, i_mul, i_sub, i_addn, i_lt, i_eq, i_idx, i_vp, true_and, and_true, false_and, and_false, if_true, if_false, Nat.reduceAdd, Nat.reduceMul, Nat.reduceSub, Nat.reduceEqDiff, Option.some.injEq, exists_eq_left', true_or, or_true, false_or, or_false, not_true_eq_false, not_false_eq_true, eq_self, and_self, Nat.reduceLeDiff, decide_true, decide_false, ne_eq, Nat.left_eq_add, Nat.add_eq_left, Nat.add_left_cancel_iff, Nat.add_zero]
        exact E'.thr
      · rw [if_neg c3, i_idx hm]
        simp (disch := omega) only [U141_0, U141_1, U141_4, U141_5, U141_6, U141_9, U141_12, U141_17, U141_18, U141_21, U141_24, U141_27, U141_30, U141_35, U141_36, U141_39, U141_40, U141_41, U141_42, U141_45, U141_46, U141_49, U141_52, c2, show ¬ m < 0 by omega, k1', g11, kq, Query_isFull Qq, V82, bz_0, c3, i_add, i_mul, i_sub, i_addn, i_lt, i_eq, i_idx, i_vp, true_and, and_true, false_and, and_false, if_true, if_false, Nat.reduceAdd, Nat.reduceMul, Nat.reduceSub, Nat.reduceEqDiff, Option.some.injEq, exists_eq_left', true_or, or_true, false_or, or_false, not_true_eq_false, not_false_eq_true, eq_self, and_self, Nat.reduceLeDiff, decide_true, decide_false, ne_eq, Nat.left_eq_add, Nat.add_eq_left, Nat.add_left_cancel_iff, Nat.add_zero]
        refine Wp_use (Query_addTerm (tm := .inl (m, a, b)) Qq (by omega) (Or.inl ⟨by omega, rfl⟩)) ?_
        rintro _ h2 ⟨rfl, n2, f2⟩
        simp (disch := omega) only [V77, U141_0, U141_1, U141_4, U141_5, U141_6, U141_9, U141_12, U141_17, U141_18, U141_21, U141_24, U141_27, U141_30, U141_35, U141_36, U141_39, U141_40, U141_41, U141_42, U141_45, U141_46, U141_49, U141_52, f2.kd, f2.gP, k1', g11, kq, Query_held n2, V79, i_add, i_mul, i_sub, i_addn, i_lt, i_eq, i_idx, i_vp, true_and, and_true, false_and, and_false, if_true, if_false, Nat.reduceAdd, Nat.reduceMul, Nat.reduceSub, Nat.reduceEqDiff, Option.some.injEq, exists_eq_left', true_or, or_true, false_or, or_false, not_true_eq_false, not_false_eq_true, eq_self, and_self, Nat.reduceLeDiff, decide_true, decide_false, ne_eq, Nat.left_eq_add, Nat.add_eq_left, Nat.add_left_cancel_iff, Nat.add_zero]
        have f3 : Fa (fun a _ => x + 40 ≤ a ∧ a < x + 53) 20 20000 h h2 := (f2.mono (fun a i z => by unfold SQ at z; omega)).fa.mono (fun _ _ _ z => z) (Nat.zero_le _) (Nat.zero_le _)
        have g := f3.fb
        exact ⟨by rw [List.length_append]; rfl, f3.fb.mono (fun a i _ z => Or.inl (by omega)), t1, t2, a1, a2, d, sA, fs, pl, pr, sr, nA, H'.fb g hx (by intro a i z w; omega), Tt.fb g hx (by intro a i z w; omega), R.fb g hx (by intro a i z w; omega), P.fb g hx (by intro a i z w; omega), F.fb g hx (by intro a i z w; omega), Bq.fb g hx (by intro a i z w; omega), I.fb g hx (by intro a i z w; omega), n2, N.fb' g hx (by intro a i z w; omega), L.fa f3 (by intro a i z w; omega)⟩
theorem EL_search (E : EL h x (B + 20) (C + 20000) tx si nm ar wr fl du cu es br tm) : Wp 133 0 [.ref x, .null] [] h (if tx.length < 1 ∨ 24 < tx.length then PZ h x B C (.inr 22) [] si nm ar wr fl du cu es br tm else if tm.length = 4 then PZ h x B C (.inr 20) [] si nm ar wr fl du cu es br tm else PZ h x B C (.inl (.int (Int32.ofNat (tm.length + 1)))) [] si nm ar wr fl du cu es br (tm ++ [.inr tx])) := by
  have k1 : kd_ h x = 12 := by obtain ⟨t1, t2, a1, a2, d, sA, fs, pl, pr, sr, nA, H, -⟩ := E; exact H.1
  simp (disch := omega) only [U133_0, U133_1, U133_4, U133_5, U133_6, U133_9, U133_10, U133_13, U133_14, U133_17, U133_19, U133_22, U133_25, U133_30, U133_31, U133_34, U133_37, U133_40, U133_43, U133_48, U133_49, U133_52, U133_53, U133_56, U133_57, U133_60, U133_63, k1, i_add, i_mul, i_sub, i_addn, i_lt, i_eq, i_idx, i_vp, true_and, and_true, false_and, and_false, if_true, if_false, Nat.reduceAdd, Nat.reduceMul, Nat.reduceSub, Nat.reduceEqDiff, Option.some.injEq, exists_eq_left', true_or, or_true, false_or, or_false, not_true_eq_false, not_false_eq_true, eq_self, and_self, Nat.reduceLeDiff, decide_true, decide_false, ne_eq, Nat.left_eq_add, Nat.add_eq_left, Nat.add_left_cancel_iff, Nat.add_zero]
  refine Wp_use (EL_takeTyped E) ?_
  rintro v h1 ⟨u, rfl, hu, rt, f1, E1⟩
  have hS : ∀ a i, (fun (a _ : Nat) => x ≤ a ∧ a < x + 5) a i → SX x a i := fun a i z => Or.inl (by omega)
  have hl := rt.2.2.2.2.2.1
  obtain ⟨rm1, rm2⟩ := E1.room
  have E' := E1
  have hx := E1.nx
  obtain ⟨t1, t2, a1, a2, d, sA, fs, pl, pr, sr, nA, H, Tt, R, P, F, Bq, I, Qq, N, L⟩ := E1
  have H' := H
  obtain ⟨k1', ⟨g0, g1, g2, g3, g4⟩, ⟨g5, g6, g7, g8, g9, g10, g11, g12⟩, g13⟩ := H
  have q4 := Qq.2.2.1
  have kq := Qq.1.1.1
  by_cases c1 : tx.length < 1
  · rw [if_pos (Or.inl c1)]
    simp (disch := omega) only [V137, U133_0, U133_1, U133_4, U133_5, U133_6, U133_9, U133_10, U133_13, U133_14, U133_17, U133_19, U133_22, U133_25, U133_30, U133_31, U133_34, U133_37, U133_40, U133_43, U133_48, U133_49, U133_52, U133_53, U133_56, U133_57, U133_60, U133_63, rt.1, Row_held rt, V89, c1, show 1 ≤ rc_ h1 by omega, show 6 ≤ rs_ h1 by omega, i_add, i_mul, i_sub, i_addn, i_lt, i_eq, i_idx, i_vp, true_and, and_true, false_and, and_false, if_true, if_false, Nat.reduceAdd, Nat.reduceMul, Nat.reduceSub, Nat.reduceEqDiff, Option.some.injEq, exists_eq_left', true_or, or_true, false_or, or_false, not_true_eq_false, not_false_eq_true, eq_self, and_self, Nat.reduceLeDiff, decide_true, decide_false, ne_eq, Nat.left_eq_add, Nat.add_eq_left, Nat.add_left_cancel_iff, Nat.add_zero]
    exact PZ.tr f1 hS _ _ E'.thr
  · by_cases c2 : 24 < tx.length
    · rw [if_pos (Or.inr c2)]
      simp (disch := omega) only [V137, U133_0, U133_1, U133_4, U133_5, U133_6, U133_9, U133_10, U133_13, U133_14, U133_17, U133_19, U133_22, U133_25, U133_30, U133_31, U133_34, U133_37, U133_40, U133_43, U133_48, U133_49, U133_52, U133_53, U133_56, U133_57, U133_60, U133_63, rt.1, Row_held rt, V89, c1, c2, show 1 ≤ rc_ h1 by omega, show 6 ≤ rs_ h1 by omega, i_add, i_mul, i_sub, i_addn, i_lt, i_eq, i_idx, i_vp, true_and, and_true, false_and, and_false, if_true, if_false, Nat.reduceAdd, Nat.reduceMul, Nat.reduceSub, Nat.reduceEqDiff, Option.some.injEq, exists_eq_left', true_or, or_true, false_or, or_false, not_true_eq_false, not_false_eq_true, eq_self, and_self, Nat.reduceLeDiff, decide_true, decide_false, ne_eq, Nat.left_eq_add, Nat.add_eq_left, Nat.add_left_cancel_iff, Nat.add_zero]
      exact PZ.tr f1 hS _ _ E'.thr
    · rw [if_neg (fun z => z.elim c1 c2)]
      by_cases c3 : tm.length = 4
      · rw [if_pos c3]
        simp (disch := omega) only [V137, U133_0, U133_1, U133_4, U133_5, U133_6, U133_9, U133_10, U133_13, U133_14, U133_17, U133_19, U133_22, U133_25, U133_30, U133_31, U133_34, U133_37, U133_40, U133_43, U133_48, U133_49, U133_52, U133_53, U133_56, U133_57, U133_60, U133_63, rt.1, Row_held rt, V89, c1, c2, k1', g11, kq, Query_isFull Qq, V82, bz_0, c3, show 1 ≤ rc_ h1 by omega, show 6 ≤ rs_ h1 by omega, i_add, i_mul, i_sub, i_addn, i_lt, i_eq, i_idx, i_vp, true_and, and_true, false_and, and_false, if_true, if_false, Nat.reduceAdd, Nat.reduceMul, Nat.reduceSub, Nat.reduceEqDiff, Option.some.injEq, exists_eq_left', true_or, or_true, false_or, or_false, not_true_eq_false, not_false_eq_true, eq_self, and_self, Nat.reduceLeDiff, decide_true, decide_false, ne_eq, Nat.left_eq_add, Nat.add_eq_left, Nat.add_left_cancel_iff, Nat.add_zero]
        exact PZ.tr f1 hS _ _ E'.thr
      · rw [if_neg c3]
        simp (disch := omega) only [V137, U133_0, U133_1, U133_4, U133_5, U133_6, U133_9, U133_10, U133_13, U133_14, U133_17, U133_19, U133_22, U133_25, U133_30, U133_31, U133_34, U133_37, U133_40, U133_43, U133_48, U133_49, U133_52, U133_53, U133_56, U133_57, U133_60, U133_63, rt.1, Row_held rt, V89, c1, c2, k1', g11, kq, Query_isFull Qq, V82, bz_0, c3, i_add, i_mul, i_sub, i_addn, i_lt, i_eq, i_idx, i_vp, true_and, and_true, false_and, and_false, if_true, if_false, Nat.reduceAdd, Nat.reduceMul, Nat.reduceSub, Nat.reduceEqDiff, Option.some.injEq, exists_eq_left', true_or, or_true, false_or, or_false, not_true_eq_false, not_false_eq_true, eq_self, and_self, Nat.reduceLeDiff, decide_true, decide_false, ne_eq, Nat.left_eq_add, Nat.add_eq_left, Nat.add_left_cancel_iff, Nat.add_zero]
        refine Wp_use (Query_addSearch Qq (by omega) rt (by omega) (by omega)) ?_
        rintro _ h2 ⟨rfl, n2, f2⟩
        simp (disch := omega) only [V76, U133_0, U133_1, U133_4, U133_5, U133_6, U133_9, U133_10, U133_13, U133_14, U133_17, U133_19, U133_22, U133_25, U133_30, U133_31, U133_34, U133_37, U133_40, U133_43, U133_48, U133_49, U133_52, U133_53, U133_56, U133_57, U133_60, U133_63, f2.kd, f2.gP, k1', g11, kq, Query_held n2, V79, i_add, i_mul, i_sub, i_addn, i_lt, i_eq, i_idx, i_vp, true_and, and_true, false_and, and_false, if_true, if_false, Nat.reduceAdd, Nat.reduceMul, Nat.reduceSub, Nat.reduceEqDiff, Option.some.injEq, exists_eq_left', true_or, or_true, false_or, or_false, not_true_eq_false, not_false_eq_true, eq_self, and_self, Nat.reduceLeDiff, decide_true, decide_false, ne_eq, Nat.left_eq_add, Nat.add_eq_left, Nat.add_left_cancel_iff, Nat.add_zero]
        have f3 : Fa (fun a _ => x + 40 ≤ a ∧ a < x + 53) 20 20000 h1 h2 := (f2.mono (fun a i z => by unfold SQ at z; omega)).fa.mono (fun _ _ _ z => z) (Nat.zero_le _) (Nat.zero_le _)
        have g := f3.fb
        refine PZ.tr f1 hS _ _ ?_
        exact ⟨by rw [List.length_append]; rfl, f3.fb.mono (fun a i _ z => Or.inl (by omega)), t1, t2, a1, a2, d, sA, fs, pl, pr, sr, nA, H'.fb g hx (by intro a i z w; omega), Tt.fb g hx (by intro a i z w; omega), R.fb g hx (by intro a i z w; omega), P.fb g hx (by intro a i z w; omega), F.fb g hx (by intro a i z w; omega), Bq.fb g hx (by intro a i z w; omega), I.fb g hx (by intro a i z w; omega), n2, N.fb' g hx (by intro a i z w; omega), L.fa f3 (by intro a i z w; omega)⟩
theorem EL_clear (E : EL h x (B + 20) (C + 20000) tx si nm ar wr fl du cu es br tm) : Wp 117 0 [.ref x, .null] [] h (PZ h x B C (.inl (.int (Int32.ofNat tm.length))) tx si nm ar wr fl du cu es br []) := by
  have hx := E.nx
  obtain ⟨t1, t2, a1, a2, d, sA, fs, pl, pr, sr, nA, H, Tt, R, P, F, Bq, I, Qq, N, L⟩ := E
  have H' := H
  obtain ⟨k1', ⟨g0, g1, g2, g3, g4⟩, ⟨g5, g6, g7, g8, g9, g10, g11, g12⟩, g13⟩ := H
  have kq := Qq.1.1.1
  simp (disch := omega) only [U117_0, U117_1, U117_4, U117_7, U117_8, U117_9, U117_12, U117_15, U117_16, k1', g11, kq, Query_held Qq, V79, i_add, i_mul, i_sub, i_addn, i_lt, i_eq, i_idx, i_vp, true_and, and_true, false_and, and_false, if_true, if_false, Nat.reduceAdd, Nat.reduceMul, Nat.reduceSub, Nat.reduceEqDiff, Option.some.injEq, exists_eq_left', true_or, or_true, false_or, or_false, not_true_eq_false, not_false_eq_true, eq_self, and_self, Nat.reduceLeDiff, decide_true, decide_false, ne_eq, Nat.left_eq_add, Nat.add_eq_left, Nat.add_left_cancel_iff, Nat.add_zero]
  refine Wp_use (Query_begin Qq) ?_
  rintro _ h2 ⟨rfl, n2, f2⟩
  simp (disch := omega) only [V78, U117_0, U117_1, U117_4, U117_7, U117_8, U117_9, U117_12, U117_15, U117_16, i_add, i_mul, i_sub, i_addn, i_lt, i_eq, i_idx, i_vp, true_and, and_true, false_and, and_false, if_true, if_false, Nat.reduceAdd, Nat.reduceMul, Nat.reduceSub, Nat.reduceEqDiff, Option.some.injEq, exists_eq_left', true_or, or_true, false_or, or_false, not_true_eq_false, not_false_eq_true, eq_self, and_self, Nat.reduceLeDiff, decide_true, decide_false, ne_eq, Nat.left_eq_add, Nat.add_eq_left, Nat.add_left_cancel_iff, Nat.add_zero]
  have f3 : Fa (fun a _ => x + 40 ≤ a ∧ a < x + 53) 20 20000 h h2 := (f2.mono (fun a i z => by unfold SQ at z; omega)).fa.mono (fun _ _ _ z => z) (Nat.zero_le _) (Nat.zero_le _)
  have g := f3.fb
  exact ⟨rfl, f3.fb.mono (fun a i _ z => Or.inl (by omega)), t1, t2, a1, a2, d, sA, fs, pl, pr, sr, nA, H'.fb g hx (by intro a i z w; omega), Tt.fb g hx (by intro a i z w; omega), R.fb g hx (by intro a i z w; omega), P.fb g hx (by intro a i z w; omega), F.fb g hx (by intro a i z w; omega), Bq.fb g hx (by intro a i z w; omega), I.fb g hx (by intro a i z w; omega), n2, N.fb' g hx (by intro a i z w; omega), L.fa f3 (by intro a i z w; omega)⟩
theorem EL_size (E : EL h x (B + 20) (C + 20000) tx si nm ar wr fl du cu es br tm) : Wp 135 0 [.ref x] [] h (PZ h x B C (.inl (.int (Int32.ofNat fl.length))) tx si nm ar wr fl du cu es br tm) := by
  have E' := E
  obtain ⟨t1, t2, a1, a2, d, sA, fs, pl, pr, sr, nA, H, Tt, R, P, F, Bq, I, Qq, N, L⟩ := E
  obtain ⟨k1', ⟨g0, g1, g2, g3, g4⟩, ⟨g5, g6, g7, g8, g9, g10, g11, g12⟩, g13⟩ := H
  simp (disch := omega) only [U135_0, U135_1, U135_4, U135_7, k1', g8, F.1.1, File_held F.1 F.2.1, V56, i_add, i_mul, i_sub, i_addn, i_lt, i_eq, i_idx, i_vp, true_and, and_true, false_and, and_false, if_true, if_false, Nat.reduceAdd, Nat.reduceMul, Nat.reduceSub, Nat.reduceEqDiff, Option.some.injEq, exists_eq_left', true_or, or_true, false_or, or_false, not_true_eq_false, not_false_eq_true, eq_self, and_self, Nat.reduceLeDiff, decide_true, decide_false, ne_eq, Nat.left_eq_add, Nat.add_eq_left, Nat.add_left_cancel_iff, Nat.add_zero]
  exact E'.ret
theorem EL_broken (E : EL h x (B + 20) (C + 20000) tx si nm ar wr fl du cu es br tm) : Wp 115 0 [.ref x] [] h (PZ h x B C (.inl (.int (Int32.ofNat br))) tx si nm ar wr fl du cu es br tm) := by
  have E' := E
  obtain ⟨t1, t2, a1, a2, d, sA, fs, pl, pr, sr, nA, H, Tt, R, P, F, Bq, I, Qq, N, L⟩ := E
  obtain ⟨k1', ⟨g0, g1, g2, g3, g4⟩, ⟨g5, g6, g7, g8, g9, g10, g11, g12⟩, g13⟩ := H
  simp (disch := omega) only [U115_0, U115_1, U115_4, U115_7, k1', g9, L.1.1.1.1, U45_0, U45_1, U45_4, L.2.2.2.2.1.2, V45, i_add, i_mul, i_sub, i_addn, i_lt, i_eq, i_idx, i_vp, true_and, and_true, false_and, and_false, if_true, if_false, Nat.reduceAdd, Nat.reduceMul, Nat.reduceSub, Nat.reduceEqDiff, Option.some.injEq, exists_eq_left', true_or, or_true, false_or, or_false, not_true_eq_false, not_false_eq_true, eq_self, and_self, Nat.reduceLeDiff, decide_true, decide_false, ne_eq, Nat.left_eq_add, Nat.add_eq_left, Nat.add_left_cancel_iff, Nat.add_zero]
  exact E'.ret
/-- a place of the file -/
def flI (i : Int32) (fl : List Nat) : Prop := ¬ i < Int32.ofNat 0 ∧ i.toNatClampNeg < fl.length
def flD (i : Int32) (fl : List Nat) : Decidable (flI i fl) := inferInstanceAs (Decidable (_ ∧ _))
theorem EL_byteOf {i : Int32} (E : EL h x (B + 20) (C + 20000) tx si nm ar wr fl du cu es br tm) : Wp 116 0 [.ref x, .int i] [] h (@ite _ (flI i fl) (flD i fl) (PZ h x B C (.inl (.int (Int32.ofNat (fl.getD i.toNatClampNeg 0)))) tx si nm ar wr fl du cu es br tm) (PZ h x B C (.inr 24) tx si nm ar wr fl du cu es br tm)) := by
  have E' := E
  obtain ⟨rm1, rm2⟩ := E.room
  obtain ⟨t1, t2, a1, a2, d, sA, fs, pl, pr, sr, nA, H, Tt, R, P, F, Bq, I, Qq, N, L⟩ := E
  obtain ⟨k1', ⟨g0, g1, g2, g3, g4⟩, ⟨g5, g6, g7, g8, g9, g10, g11, g12⟩, g13⟩ := H
  have hl := F.2.1.2.2.2.2.2.1
  by_cases c1 : i < Int32.ofNat 0
  · rw [if_neg (fun z => z.1 c1)]
    simp (disch := omega) only [U116_0, U116_1, U116_4, U116_5, U116_6, U116_9, U116_12, U116_15, U116_18, U116_23, U116_24, U116_27, U116_30, U116_31, U116_34, c1, show 1 ≤ rc_ h by omega, show 6 ≤ rs_ h by omega, i_add, i_mul, i_sub, i_addn, i_lt, i_eq, i_idx, i_vp, true_and, and_true, false_and, and_false, if_true, if_false, Nat.reduceAdd, Nat.reduceMul, Nat.reduceSub, Nat.reduceEqDiff, Option.some.injEq, exists_eq_left', true_or, or_true, false_or, or_false, not_true_eq_false, not_false_eq_true, eq_self, and_self, Nat.reduceLeDiff, decide_true, decide_false, ne_eq, Nat.left_eq_add, Nat.add_eq_left, Nat.add_left_cancel_iff, Nat.add_zero]
    exact E'.thr
  · obtain ⟨m, hm, rfl⟩ := i_nat c1
    have ei := i_idx hm
    by_cases c2 : m < fl.length
    · rw [if_pos ⟨c1, by rw [ei]; exact c2⟩, ei]
      simp (disch := omega) only [U116_0, U116_1, U116_4, U116_5, U116_6, U116_9, U116_12, U116_15, U116_18, U116_23, U116_24, U116_27, U116_30, U116_31, U116_34, c2, show ¬ m < 0 by omega, k1', g8, F.1.1, F.1.2, F.2.1.1, File_held F.1 F.2.1, V56, U60_0, U60_1, U60_4, V60, Row_at F.2.1, V85, i_add, i_mul, i_sub, i_addn, i_lt, i_eq, i_idx, i_vp, true_and, and_true, false_and, and_false, if_true, if_false, Nat.reduceAdd, Nat.reduceMul, Nat.reduceSub, Nat.reduceEqDiff, Option.some.injEq, exists_eq_left', true_or, or_true, false_or, or_false, not_true_eq_false, not_false_eq_true, eq_self, and_self, Nat.reduceLeDiff, decide_true, decide_false, ne_eq, Nat.left_eq_add, Nat.add_eq_left, Nat.add_left_cancel_iff, Nat.add_zero]
      exact E'.ret
    · rw [if_neg (fun z => by have := z.2; rw [ei] at this; omega)]
      simp (disch := omega) only [U116_0, U116_1, U116_4, U116_5, U116_6, U116_9, U116_12, U116_15, U116_18, U116_23, U116_24, U116_27, U116_30, U116_31, U116_34, c2, show ¬ m < 0 by omega, k1', g8, F.1.1, File_held F.1 F.2.1, V56, show 1 ≤ rc_ h by omega, show 6 ≤ rs_ h by omega, i_add, i_mul, i_sub, i_addn, i_lt, i_eq, i_idx, i_vp, true_and, and_true, false_and, and_false, if_true, if_false, Nat.reduceAdd, Nat.reduceMul, Nat.reduceSub, Nat.reduceEqDiff, Option.some.injEq, exists_eq_left', true_or, or_true, false_or, or_false, not_true_eq_false, not_false_eq_true, eq_self, and_self, Nat.reduceLeDiff, decide_true, decide_false, ne_eq, Nat.left_eq_add, Nat.add_eq_left, Nat.add_left_cancel_iff, Nat.add_zero]
      exact E'.thr
theorem EL_damage {i b : Int32} (E : EL h x (B + 20) (C + 20000) tx si nm ar wr fl du cu es br tm) : Wp 120 0 [.ref x, .int i, .int b] [] h (@ite _ (flI i fl) (flD i fl) (PZ h x B C (.inl .null) tx si nm ar wr (fl.set i.toNatClampNeg (lo8 b)) du cu es br tm) (PZ h x B C (.inr 24) tx si nm ar wr fl du cu es br tm)) := by
  have E' := E
  have hx := E.nx
  obtain ⟨rm1, rm2⟩ := E.room
  obtain ⟨t1, t2, a1, a2, d, sA, fs, pl, pr, sr, nA, H, Tt, R, P, F, Bq, I, Qq, N, L⟩ := E
  have H' := H
  obtain ⟨k1', ⟨g0, g1, g2, g3, g4⟩, ⟨g5, g6, g7, g8, g9, g10, g11, g12⟩, g13⟩ := H
  have hl := F.2.1.2.2.2.2.2.1
  by_cases c1 : i < Int32.ofNat 0
  · rw [if_neg (fun z => z.1 c1)]
    simp (disch := omega) only [U120_0, U120_1, U120_4, U120_5, U120_6, U120_9, U120_12, U120_15, U120_18, U120_23, U120_24, U120_27, U120_30, U120_31, U120_32, U120_35, c1, show 1 ≤ rc_ h by omega, show 6 ≤ rs_ h by omega, i_add, i_mul, i_sub, i_addn, i_lt, i_eq, i_idx, i_vp, true_and, and_true, false_and, and_false, if_true, if_false, Nat.reduceAdd, Nat.reduceMul, Nat.reduceSub, Nat.reduceEqDiff, Option.some.injEq, exists_eq_left', true_or, or_true, false_or, or_false, not_true_eq_false, not_false_eq_true, eq_self, and_self, Nat.reduceLeDiff, decide_true, decide_false, ne_eq, Nat.left_eq_add, Nat.add_eq_left, Nat.add_left_cancel_iff, Nat.add_zero]
    exact E'.thr
  · obtain ⟨m, hm, rfl⟩ := i_nat c1
    have ei := i_idx hm
    by_cases c2 : m < fl.length
    · rw [if_pos ⟨c1, by rw [ei]; exact c2⟩, ei]
      simp (disch := omega) only [U120_0, U120_1, U120_4, U120_5, U120_6, U120_9, U120_12, U120_15, U120_18, U120_23, U120_24, U120_27, U120_30, U120_31, U120_32, U120_35, c2, show ¬ m < 0 by omega, k1', g8, F.1.1, F.1.2, F.2.1.1, File_held F.1 F.2.1, V56, U60_0, U60_1, U60_4, V60, i_add, i_mul, i_sub, i_addn, i_lt, i_eq, i_idx, i_vp, true_and, and_true, false_and, and_false, if_true, if_false, Nat.reduceAdd, Nat.reduceMul, Nat.reduceSub, Nat.reduceEqDiff, Option.some.injEq, exists_eq_left', true_or, or_true, false_or, or_false, not_true_eq_false, not_false_eq_true, eq_self, and_self, Nat.reduceLeDiff, decide_true, decide_false, ne_eq, Nat.left_eq_add, Nat.add_eq_left, Nat.add_left_cancel_iff, Nat.add_zero]
      refine Wp_use (Row_set F.2.1 c2) ?_
      rintro _ h2 ⟨rfl, n2, f2⟩
      simp (disch := omega) only [V99, U120_0, U120_1, U120_4, U120_5, U120_6, U120_9, U120_12, U120_15, U120_18, U120_23, U120_24, U120_27, U120_30, U120_31, U120_32, U120_35, i_add, i_mul, i_sub, i_addn, i_lt, i_eq, i_idx, i_vp, true_and, and_true, false_and, and_false, if_true, if_false, Nat.reduceAdd, Nat.reduceMul, Nat.reduceSub, Nat.reduceEqDiff, Option.some.injEq, exists_eq_left', true_or, or_true, false_or, or_false, not_true_eq_false, not_false_eq_true, eq_self, and_self, Nat.reduceLeDiff, decide_true, decide_false, ne_eq, Nat.left_eq_add, Nat.add_eq_left, Nat.add_left_cancel_iff, Nat.add_zero]
      have f3 : Fa (fun a _ => x + 24 ≤ a ∧ a < x + 26) 20 20000 h h2 := (f2.mono (fun a i z => by unfold SR at z; omega)).fa.mono (fun _ _ _ z => z) (Nat.zero_le _) (Nat.zero_le _)
      have g := f3.fb
      exact ⟨rfl, f3.fb.mono (fun a i _ z => Or.inl (by omega)), t1, t2, a1, a2, d, sA, fs, pl, pr, sr, nA, H'.fb g hx (by intro a i z w; omega), Tt.fb g hx (by intro a i z w; omega), R.fb g hx (by intro a i z w; omega), P.fb g hx (by intro a i z w; omega), ⟨F.1.fz f2, n2, by rw [f2.gI (by unfold SR; omega)]; exact F.2.2.1, by rw [f2.gI (by unfold SR; omega)]; exact F.2.2.2.1, by rw [List.length_set]; exact F.2.2.2.2⟩, Bq.fb g hx (by intro a i z w; omega), I.fb g hx (by intro a i z w; omega), Qq.fb g hx (by intro a i z w; omega), N.fb' g hx (by intro a i z w; omega), L.fa f3 (by intro a i z w; omega)⟩
    · rw [if_neg (fun z => by have := z.2; rw [ei] at this; omega)]
      simp (disch := omega) only [U120_0, U120_1, U120_4, U120_5, U120_6, U120_9, U120_12, U120_15, U120_18, U120_23, U120_24, U120_27, U120_30, U120_31, U120_32, U120_35, c2, show ¬ m < 0 by omega, k1', g8, F.1.1, File_held F.1 F.2.1, V56, show 1 ≤ rc_ h by omega, show 6 ≤ rs_ h by omega, i_add, i_mul, i_sub, i_addn, i_lt, i_eq, i_idx, i_vp, true_and, and_true, false_and, and_false, if_true, if_false, Nat.reduceAdd, Nat.reduceMul, Nat.reduceSub, Nat.reduceEqDiff, Option.some.injEq, exists_eq_left', true_or, or_true, false_or, or_false, not_true_eq_false, not_false_eq_true, eq_self, and_self, Nat.reduceLeDiff, decide_true, decide_false, ne_eq, Nat.left_eq_add, Nat.add_eq_left, Nat.add_left_cancel_iff, Nat.add_zero]
      exact E'.thr
end
