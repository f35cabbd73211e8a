/-! ===== the class: length, letter, find, count ===== -/
def prE (nm : Nat → List Nat) (si : List (List Tok)) (y : Ev) : List Nat := prF nm y.2.2.2 (si.getD y.2.1 []) 0
def hld (nm : Nat → List Nat) (si : List (List Tok)) (tm : List Tm) (y : Ev) : Bool := tm.all (tmH nm (si.getD y.2.1 []) y.1 y.2.1 y.2.2.2)
section
variable {h h' : MH_} {x B C n : Nat} {tx : List Nat} {si : List (List Tok)} {nm : Nat → List Nat} {ar : List Arg} {wr : Nat → Wr} {fl : List Nat} {du : Nat} {cu : Bool} {es : List Ev} {br : Nat} {tm : List Tm}
theorem EL.sp {l : List Nat} (E : EL h x B C tx si nm ar wr fl du cu es br tm) (f : Fz (SP (x + 33)) h h') (r : Rw h' (x + 33 + 4) 176 l) : EL h' x B C tx si nm ar wr fl du cu es br tm := by
  have hx := E.nx
  obtain ⟨t1, t2, a1, a2, d, sA, fs, pl, pr, sr, nA, H, Tt, R, P, F, Bq, I, Qq, N, L⟩ := E
  have f1 : Fa (fun a _ => x + 37 ≤ a ∧ a < x + 40) 0 0 h h' := (f.mono (fun a i z => by unfold SP SR at z; omega)).fa
  have g := f1.fb
  exact ⟨t1, t2, a1, a2, d, sA, fs, pl, pr, sr, nA, H.fb g hx (by intro a i z w; omega), Tt.fb g hx (by intro a i z w; omega), R.fb g hx (by intro a i z w; omega), P.fb g hx (by intro a i z w; omega), F.fb g hx (by intro a i z w; omega), Bq.fb g hx (by intro a i z w; omega), ⟨I.1.fz f, I.2.1.fz f (by unfold SN SP SR; intro a i z w; omega), l, r⟩, Qq.fb g hx (by intro a i z w; omega), N.fb' g hx (by intro a i z w; omega), XL.fa (n := 0) (w := 0) L f1 (by intro a i z w; omega)⟩
theorem SP_SX : ∀ a i, SP (x + 33) a i → SX x a i := by unfold SP SR SX; intro a i z; omega
theorem si_gD {s : Nat} {ts : List Tok} (h : si[s]? = some ts) : si.getD s [] = ts := by rw [List.getD_eq_getElem?_getD, h]; rfl
theorem EL_length {k : Int32} (ok : ∀ y ∈ es, okL si y) (E : EL h x (B + 20) (C + 20000) tx si nm ar wr fl du cu es br tm) : Wp 126 0 [.ref x, .int k, .null] [] h (@ite _ (liI k es) (liD k es) (PZ h x B C (.inl (.int (Int32.ofNat (prE nm si (lnE es k.toNatClampNeg)).length))) tx si nm ar wr fl du cu es br tm) (PZ h x B C (.inr 21) tx si nm ar wr fl du cu es br tm)) := by
  have E' := E
  obtain ⟨rm1, rm2⟩ := E.room
  obtain ⟨t1, t2, a1, a2, d, sA, fs, pl, pr, sr, nA, H, Tt, R, P, F, Bq, I, Qq, N, L⟩ := E
  obtain ⟨k1, -, ⟨g5, g6, g7, g8, g9, g10, g11, g12⟩, -⟩ := H
  have l1 := L.1.1.1.1
  have l3 := L.1.1.1.2.2.1
  have p2 := L.1.2.1.2.1
  have p3 := L.1.2.1.2.2
  have sl := so_len (es := es) (pl := pl)
  have hl := p2.len
  obtain ⟨i1, i2, il, i3⟩ := I
  by_cases c1 : k < Int32.ofNat 0
  · rw [if_neg (fun z => z.1 c1)]
    simp (disch := omega) only [U126_0, U126_1, U126_2, U126_5, U126_6, U126_7, U126_10, U126_11, U126_12, U126_13, U126_16, U126_19, U126_22, U128_0, U128_1, U128_4, U128_5, U128_6, U128_9, U128_12, U128_15, U128_18, U128_23, U128_24, U128_27, U128_28, U128_31, k1, c1, Y126, show 1 ≤ rc_ h by omega, show 6 ≤ rs_ h by omega, i_add, i_mul, i_sub, i_addn, i_lt, i_eq, i_idx, i_vp, true_and, and_true, false_and, and_false, if_true, if_false, Nat.reduceAdd, Nat.reduceMul, Nat.reduceSub, Nat.reduceEqDiff, Option.some.injEq, exists_eq_left', true_or, or_true, false_or, or_false, not_true_eq_false, not_false_eq_true, eq_self, and_self, Nat.reduceLeDiff, decide_true, decide_false, ne_eq, Nat.left_eq_add, Nat.add_eq_left, Nat.add_left_cancel_iff, Nat.add_zero]
    exact E'.thr
  · obtain ⟨m, hm, rfl⟩ := i_nat c1
    have ei := i_idx hm
    by_cases c2 : m < es.length
    · rw [if_pos ⟨c1, by rw [ei]; exact c2⟩, ei]
      obtain ⟨e, f, ts, s1, s2, s3, s4, s5, s6, s7, s8, s9, s10, s11, s12⟩ := L.line ok c2
      obtain ⟨hm2, hge⟩ := get_of s1
      obtain ⟨hs2, hgf⟩ := get_of s2
      have hl3 := p3.len
      simp (disch := omega) only [U126_0, U126_1, U126_2, U126_5, U126_6, U126_7, U126_10, U126_11, U126_12, U126_13, U126_16, U128_0, U128_1, U128_4, U128_5, U128_6, U128_9, U128_12, U128_15, U128_18, U128_23, U128_24, U128_27, U128_28, U128_31, V128, show ¬ m < 0 by omega, c2, k1, g5, g9, g10, l1, l3, p2.1, p3.1, i1.1, U46_0, U46_1, U46_4, U46_7, V46, AL_size p2, V219, sl, U44_0, U44_1, U44_4, U44_5, U44_8, U44_11, V44, AL_get p2 hm2, hge, V215, s4.1.1, U124_0, U124_1, U124_4, U124_5, U124_6, U124_9, U124_10, U124_11, U124_14, U124_17, U124_20, U124_21, U124_24, U124_25, U124_28, U124_31, U124_34, U124_35, U124_38, V124, U21_0, U21_1, U21_4, V21, s5.2.1, AL_size p3, Nat.not_lt_zero, hs2, AL_get p3 hs2, hgf, s6.1.1, i_add, i_mul, i_sub, i_addn, i_lt, i_eq, i_idx, i_vp, true_and, and_true, false_and, and_false, if_true, if_false, Nat.reduceAdd, Nat.reduceMul, Nat.reduceSub, Nat.reduceEqDiff, Option.some.injEq, exists_eq_left', true_or, or_true, false_or, or_false, not_true_eq_false, not_false_eq_true, eq_self, and_self, Nat.reduceLeDiff, decide_true, decide_false, ne_eq, Nat.left_eq_add, Nat.add_eq_left, Nat.add_left_cancel_iff, Nat.add_zero]
      refine Wp_use (Printer_print i1 i2 i3 s6.1 s6.2.1 s7 s4 s8 (by omega) (by omega)) ?_
      rintro _ h1 ⟨rfl, r1, f1⟩
      simp (disch := omega) only [V71, U126_19, U126_22, r1.1, Row_held r1, V89, i_add, i_mul, i_sub, i_addn, i_lt, i_eq, i_idx, i_vp, true_and, and_true, false_and, and_false, if_true, if_false, Nat.reduceAdd, Nat.reduceMul, Nat.reduceSub, Nat.reduceEqDiff, Option.some.injEq, exists_eq_left', true_or, or_true, false_or, or_false, not_true_eq_false, not_false_eq_true, eq_self, and_self, Nat.reduceLeDiff, decide_true, decide_false, ne_eq, Nat.left_eq_add, Nat.add_eq_left, Nat.add_left_cancel_iff, Nat.add_zero]
      have e0 : prE nm si (lnE es m) = prF nm (lnE es m).2.2.2 ts 0 := by unfold prE; rw [si_gD s3]
      rw [e0]
      exact PZ.tr f1.fy SP_SX _ _ (E'.sp f1 r1).ret
    · rw [if_neg (fun z => by have := z.2; rw [ei] at this; omega)]
      simp (disch := omega) only [U126_0, U126_1, U126_2, U126_5, U126_6, U126_7, U126_10, U126_11, U126_12, U126_13, U126_16, U126_19, U126_22, U128_0, U128_1, U128_4, U128_5, U128_6, U128_9, U128_12, U128_15, U128_18, U128_23, U128_24, U128_27, U128_28, U128_31, show ¬ m < 0 by omega, c2, k1, g9, l1, l3, p2.1, U46_0, U46_1, U46_4, U46_7, V46, AL_size p2, V219, sl, Y126, show 1 ≤ rc_ h by omega, show 6 ≤ rs_ h by omega, i_add, i_mul, i_sub, i_addn, i_lt, i_eq, i_idx, i_vp, true_and, and_true, false_and, and_false, if_true, if_false, Nat.reduceAdd, Nat.reduceMul, Nat.reduceSub, Nat.reduceEqDiff, Option.some.injEq, exists_eq_left', true_or, or_true, false_or, or_false, not_true_eq_false, not_false_eq_true, eq_self, and_self, Nat.reduceLeDiff, decide_true, decide_false, ne_eq, Nat.left_eq_add, Nat.add_eq_left, Nat.add_left_cancel_iff, Nat.add_zero]
      exact E'.thr
theorem EL_letter {k j : Int32} (ok : ∀ y ∈ es, okL si y) (E : EL h x (B + 20) (C + 20000) tx si nm ar wr fl du cu es br tm) : Wp 127 0 [.ref x, .int k, .int j, .null, .null] [] h (@ite _ (liI k es) (liD k es) (@ite _ (flI j (prE nm si (lnE es k.toNatClampNeg))) (flD _ _) (PZ h x B C (.inl (.int (Int32.ofNat ((prE nm si (lnE es k.toNatClampNeg)).getD j.toNatClampNeg 0)))) tx si nm ar wr fl du cu es br tm) (PZ h x B C (.inr 24) tx si nm ar wr fl du cu es br tm)) (PZ h x B C (.inr 21) tx si nm ar wr fl du cu es br tm)) := by
  have E' := E
  obtain ⟨rm1, rm2⟩ := E.room
  obtain ⟨t1, t2, a1, a2, d, sA, fs, pl, pr, sr, nA, H, Tt, R, P, F, Bq, I, Qq, N, L⟩ := E
  obtain ⟨k1, -, ⟨g5, g6, g7, g8, g9, g10, g11, g12⟩, -⟩ := H
  have l1 := L.1.1.1.1
  have l3 := L.1.1.1.2.2.1
  have p2 := L.1.2.1.2.1
  have p3 := L.1.2.1.2.2
  have sl := so_len (es := es) (pl := pl)
  have hl := p2.len
  obtain ⟨i1, i2, il, i3⟩ := I
  by_cases c1 : k < Int32.ofNat 0
  · rw [if_neg (fun z => z.1 c1)]
    simp (disch := omega) only [U127_0, U127_1, U127_2, U127_5, U127_6, U127_7, U127_10, U127_11, U127_12, U127_13, U127_16, U127_19, U127_21, U127_22, U127_25, U127_26, U127_28, U127_31, U127_34, U127_37, U127_42, U127_44, U127_45, U127_48, U128_0, U128_1, U128_4, U128_5, U128_6, U128_9, U128_12, U128_15, U128_18, U128_23, U128_24, U128_27, U128_28, U128_31, k1, c1, Y127, show 1 ≤ rc_ h by omega, show 6 ≤ rs_ h by omega, i_add, i_mul, i_sub, i_addn, i_lt, i_eq, i_idx, i_vp, true_and, and_true, false_and, and_false, if_true, if_false, Nat.reduceAdd, Nat.reduceMul, Nat.reduceSub, Nat.reduceEqDiff, Option.some.injEq, exists_eq_left', true_or, or_true, false_or, or_false, not_true_eq_false, not_false_eq_true, eq_self, and_self, Nat.reduceLeDiff, decide_true, decide_false, ne_eq, Nat.left_eq_add, Nat.add_eq_left, Nat.add_left_cancel_iff, Nat.add_zero]
    exact E'.thr
  · obtain ⟨m, hm, rfl⟩ := i_nat c1
    have ei := i_idx hm
    by_cases c2 : m < es.length
    · rw [if_pos ⟨c1, by rw [ei]; exact c2⟩, ei]
      obtain ⟨e, f, ts, s1, s2, s3, s4, s5, s6, s7, s8, s9, s10, s11, s12⟩ := L.line ok c2
      obtain ⟨hm2, hge⟩ := get_of s1
      obtain ⟨hs2, hgf⟩ := get_of s2
      have hl3 := p3.len
      simp (disch := omega) only [U127_0, U127_1, U127_2, U127_5, U127_6, U127_7, U127_10, U127_11, U127_12, U127_13, U127_16, U128_0, U128_1, U128_4, U128_5, U128_6, U128_9, U128_12, U128_15, U128_18, U128_23, U128_24, U128_27, U128_28, U128_31, V128, show ¬ m < 0 by omega, c2, k1, g5, g9, g10, l1, l3, p2.1, p3.1, i1.1, U46_0, U46_1, U46_4, U46_7, V46, AL_size p2, V219, sl, U44_0, U44_1, U44_4, U44_5, U44_8, U44_11, V44, AL_get p2 hm2, hge, V215, s4.1.1, U124_0, U124_1, U124_4, U124_5, U124_6, U124_9, U124_10, U124_11, U124_14, U124_17, U124_20, U124_21, U124_24, U124_25, U124_28, U124_31, U124_34, U124_35, U124_38, V124, U21_0, U21_1, U21_4, V21, s5.2.1, AL_size p3, Nat.not_lt_zero, hs2, AL_get p3 hs2, hgf, s6.1.1, i_add, i_mul, i_sub, i_addn, i_lt, i_eq, i_idx, i_vp, true_and, and_true, false_and, and_false, if_true, if_false, Nat.reduceAdd, Nat.reduceMul, Nat.reduceSub, Nat.reduceEqDiff, Option.some.injEq, exists_eq_left', true_or, or_true, false_or, or_false, not_true_eq_false, not_false_eq_true, eq_self, and_self, Nat.reduceLeDiff, decide_true, decide_false, ne_eq, Nat.left_eq_add, Nat.add_eq_left, Nat.add_left_cancel_iff, Nat.add_zero]
      refine Wp_use (Printer_print i1 i2 i3 s6.1 s6.2.1 s7 s4 s8 (by omega) (by omega)) ?_
      rintro _ h1 ⟨rfl, r1, f1⟩
      have e0 : prE nm si (lnE es m) = prF nm (lnE es m).2.2.2 ts 0 := by unfold prE; rw [si_gD s3]
      rw [e0]
      have E1 := E'.sp f1 r1
      obtain ⟨rm3, rm4⟩ := E1.room
      have hl1 := r1.2.2.2.2.2.1
      generalize prF nm (lnE es m).2.2.2 ts 0 = pl1 at *
      by_cases d1 : j < Int32.ofNat 0
      · rw [if_neg (fun z => z.1 d1)]
        simp (disch := omega) only [V71, U127_19, U127_21, U127_22, U127_25, U127_26, U127_28, U127_31, U127_34, U127_37, U127_42, U127_44, U127_45, U127_48, d1, show 1 ≤ rc_ h1 by omega, show 6 ≤ rs_ h1 by omega, i_add, i_mul, i_sub, i_addn, i_lt, i_eq, i_idx, i_vp, true_and, and_true, false_and, and_false, if_true, if_false, Nat.reduceAdd, Nat.reduceMul, Nat.reduceSub, Nat.reduceEqDiff, Option.some.injEq, exists_eq_left', true_or, or_true, false_or, or_false, not_true_eq_false, not_false_eq_true, eq_self, and_self, Nat.reduceLeDiff, decide_true, decide_false, ne_eq, Nat.left_eq_add, Nat.add_eq_left, Nat.add_left_cancel_iff, Nat.add_zero]
        exact PZ.tr f1.fy SP_SX _ _ E1.thr
      · obtain ⟨q, hq, rfl⟩ := i_nat d1
        have ej := i_idx hq
        by_cases d2 : q < pl1.length
        · rw [if_pos ⟨d1, by rw [ej]; exact d2⟩, ej]
          simp (disch := omega) only [V71, U127_19, U127_21, U127_22, U127_25, U127_26, U127_28, U127_31, U127_34, U127_37, U127_42, U127_44, U127_45, U127_48, show ¬ q < 0 by omega, d2, r1.1, Row_held r1, V89, Row_at r1, V85, i_add, i_mul, i_sub, i_addn, i_lt, i_eq, i_idx, i_vp, true_and, and_true, false_and, and_false, if_true, if_false, Nat.reduceAdd, Nat.reduceMul, Nat.reduceSub, Nat.reduceEqDiff, Option.some.injEq, exists_eq_left', true_or, or_true, false_or, or_false, not_true_eq_false, not_false_eq_true, eq_self, and_self, Nat.reduceLeDiff, decide_true, decide_false, ne_eq, Nat.left_eq_add, Nat.add_eq_left, Nat.add_left_cancel_iff, Nat.add_zero]
          exact PZ.tr f1.fy SP_SX _ _ E1.ret
        · rw [if_neg (fun z => by have := z.2; rw [ej] at this; omega)]
          simp (disch := omega) only [V71, U127_19, U127_21, U127_22, U127_25, U127_26, U127_28, U127_31, U127_34, U127_37, U127_42, U127_44, U127_45, U127_48, show ¬ q < 0 by omega, d2, r1.1, Row_held r1, V89, show 1 ≤ rc_ h1 by omega, show 6 ≤ rs_ h1 by omega, i_add, i_mul, i_sub, i_addn, i_lt, i_eq, i_idx, i_vp, true_and, and_true, false_and, and_false, if_true, if_false, Nat.reduceAdd, Nat.reduceMul, Nat.reduceSub, Nat.reduceEqDiff, Option.some.injEq, exists_eq_left', true_or, or_true, false_or, or_false, not_true_eq_false, not_false_eq_true, eq_self, and_self, Nat.reduceLeDiff, decide_true, decide_false, ne_eq, Nat.left_eq_add, Nat.add_eq_left, Nat.add_left_cancel_iff, Nat.add_zero]
          exact PZ.tr f1.fy SP_SX _ _ E1.thr
    · rw [if_neg (fun z => by have := z.2; rw [ei] at this; omega)]
      simp (disch := omega) only [U127_0, U127_1, U127_2, U127_5, U127_6, U127_7, U127_10, U127_11, U127_12, U127_13, U127_16, U127_19, U127_21, U127_22, U127_25, U127_26, U127_28, U127_31, U127_34, U127_37, U127_42, U127_44, U127_45, U127_48, U128_0, U128_1, U128_4, U128_5, U128_6, U128_9, U128_12, U128_15, U128_18, U128_23, U128_24, U128_27, U128_28, U128_31, show ¬ m < 0 by omega, c2, k1, g9, l1, l3, p2.1, U46_0, U46_1, U46_4, U46_7, V46, AL_size p2, V219, sl, Y127, show 1 ≤ rc_ h by omega, show 6 ≤ rs_ h by omega, i_add, i_mul, i_sub, i_addn, i_lt, i_eq, i_idx, i_vp, true_and, and_true, false_and, and_false, if_true, if_false, Nat.reduceAdd, Nat.reduceMul, Nat.reduceSub, Nat.reduceEqDiff, Option.some.injEq, exists_eq_left', true_or, or_true, false_or, or_false, not_true_eq_false, not_false_eq_true, eq_self, and_self, Nat.reduceLeDiff, decide_true, decide_false, ne_eq, Nat.left_eq_add, Nat.add_eq_left, Nat.add_left_cancel_iff, Nat.add_zero]
      exact E'.thr
/-- the first of n from k on -/
def fnF (p : Nat → Bool) : Nat → Nat → Int32
  | 0, _ => -(Int32.ofNat 1)
  | n + 1, k => if p k = true then Int32.ofNat k else fnF p n (k + 1)
def ctF (p : Nat → Bool) : Nat → Nat → Nat
  | 0, _ => 0
  | n + 1, k => (if p k = true then 1 else 0) + ctF p n (k + 1)
/-- a query is asked of a line: all that changes is the printer's row -/
theorem hold_step {m : Nat} (ok : ∀ y ∈ es, okL si y) (hm : m < es.length) (E : EL h x B C tx si nm ar wr fl du cu es br tm) {Q : Rs_ → MH_ → Prop} {e f : Nat} {ts : List Tok} (s3 : si[(lnE es m).2.1]? = some ts) (s4 : Ea h e (lnE es m).2.2.2) (s5 : Ew h e (lnE es m).1 (lnE es m).2.1 (Int64.ofNat (lnE es m).2.2.1)) (s6 : Fo h f ts) (s7 : okS ts) (s8 : fit ts (lnE es m).2.2.2 = true) (s9 : x + 104 ≤ e) (s10 : f = x + 13 ∨ x + 104 ≤ f) (K : ∀ h1, Fz (SP (x + 33)) h h1 → EL h1 x B C tx si nm ar wr fl du cu es br tm → Q (.inl (.int (bz (hld nm si tm (lnE es m) = true)))) h1) : Wp 80 0 [.ref (x + 40), .ref e, .ref f, .ref (x + 33), .null, .null] [] h Q := by
  have E' := E
  obtain ⟨t1, t2, a1, a2, d, sA, fs, pl, pr, sr, nA, H, Tt, R, P, F, Bq, I, Qq, N, L⟩ := E
  obtain ⟨i1, i2, il, i3⟩ := I
  refine Wp_use (Query_holds Qq i1 i2 i3 s6.1 s6.2.1 s7 s4 s5 s8 (by omega) (by omega) (by omega)) ?_
  rintro v h1 ⟨rfl, ⟨l, r1⟩, f1⟩
  have q := K h1 f1 (E'.sp f1 r1)
  unfold hld at q
  rw [si_gD s3] at q
  exact q
end
