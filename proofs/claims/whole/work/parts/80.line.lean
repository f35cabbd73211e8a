/-! ===== the class: lines ===== -/
def lnE (es : List Ev) (k : Nat) : Ev := es.getD ((odA es).getD k 0) evD
def liI (k : Int32) (es : List Ev) : Prop := ¬ k < Int32.ofNat 0 ∧ k.toNatClampNeg < es.length
def liD (k : Int32) (es : List Ev) : Decidable (liI k es) := inferInstanceAs (Decidable (_ ∧ _))
section
variable {h h' : MH_} {x B C n : Nat} {tx : List Nat} {si : List (List Tok)} {nm : Nat → List Nat} {ar : List Arg} {wr : Nat → Wr} {fl : List Nat} {du : Nat} {cu : Bool} {es : List Ev} {br : Nat} {tm : List Tm}
theorem pl_gD {pl : List Nat} {i : Nat} (h : i < pl.length) : pl[i]? = some (pl.getD i 0) := by rw [List.getD_eq_getElem?_getD, List.getElem?_eq_getElem h]; rfl
theorem XL.line {sA d pr sr k : Nat} {fs pl : List Nat} (L : XL h x sA d fs si pl pr sr es br B C) (ok : ∀ y ∈ es, okL si y) (hk : k < es.length) : ∃ e f ts, (soO pl (odA es))[k]? = some e ∧ fs[(lnE es k).2.1]? = some f ∧ si[(lnE es k).2.1]? = some ts ∧ Ea h e (lnE es k).2.2.2 ∧ Ew h e (lnE es k).1 (lnE es k).2.1 (Int64.ofNat (lnE es k).2.2.1) ∧ Fo h f ts ∧ okS ts ∧ fit ts (lnE es k).2.2.2 = true ∧ x + 104 ≤ e ∧ (f = x + 13 ∨ x + 104 ≤ f) ∧ (lnE es k).2.1 < fs.length ∧ (lnE es k).1 < 4 := by
  obtain ⟨⟨-, -, r2, -, -⟩, ⟨-, b1, b2, -, -⟩, -, P, -⟩ := L
  obtain ⟨o1, o2, o3⟩ := odA_inv es
  have hi := o3 _ (gD_mem (show k < (odA es).length by omega))
  have h1 : es[(odA es).getD k 0]? = some (lnE es k) := gD_ev hi
  have h2 : pl[(odA es).getD k 0]? = some (pl.getD ((odA es).getD k 0) 0) := pl_gD (by have := P.1; omega)
  obtain ⟨p1, p2⟩ := P.2 _ _ _ h2 h1
  obtain ⟨w4, t9, ts, hts, hfit⟩ := ok _ (List.mem_of_getElem? h1)
  have hs : (lnE es k).2.1 < si.length := by
    rcases Nat.lt_or_ge (lnE es k).2.1 si.length with z | z
    · exact z
    · rw [List.getElem?_eq_none z] at hts; cases hts
  have hf : (lnE es k).2.1 < fs.length := by rw [r2.1]; exact hs
  obtain ⟨fo, okts⟩ := r2.2.2 _ _ _ (List.getElem?_eq_getElem hf) hts
  exact ⟨_, _, ts, soO_at (by omega), List.getElem?_eq_getElem hf, hts, p1, p2, fo, okts, hfit, (b1 _ (List.mem_of_getElem? h2)).1, (b2 _ (List.getElem_mem hf)).1, hf, w4⟩
theorem so_len {pl : List Nat} : (soO pl (odA es)).length = es.length := by unfold soO; rw [List.length_map]; exact (odA_inv es).1
theorem get_of {l : List Nat} {k e : Nat} (h : l[k]? = some e) : ∃ hk : k < l.length, l[k] = e := by
  rcases Nat.lt_or_ge k l.length with z | z
  · refine ⟨z, ?_⟩
    rw [List.getElem?_eq_getElem z] at h
    exact Option.some.inj h
  · rw [List.getElem?_eq_none z] at h; cases h
theorem EL_time {k : Int32} (ok : ∀ y ∈ es, okL si y) (E : EL h x (B + 20) (C + 20000) tx si nm ar wr fl du cu es br tm) : Wp 139 0 [.ref x, .int k] [] h (@ite _ (liI k es) (liD k es) (PZ h x B C (.inl (.long (Int64.ofNat (lnE es k.toNatClampNeg).2.2.1))) tx si nm ar wr fl du cu es br tm) (PZ h x B C (.inr 21) tx si nm ar wr fl du cu es br tm)) := by
  have E' := E
  obtain ⟨rm1, rm2⟩ := E.room
  obtain ⟨t1, t2, a1, a2, d, sA, fs, pl, pr, sr, nA, H, Tt, R, P, F, Bq, I, Qq, N, L⟩ := E
  obtain ⟨k1, -, ⟨g5, g6, g7, g8, g9, g10, g11, g12⟩, -⟩ := H
  have l1 := L.1.1.1.1
  have l3 := L.1.1.1.2.2.1
  have p2 := L.1.2.1.2.1
  have sl := so_len (es := es) (pl := pl)
  have hl := p2.len
  by_cases c1 : k < Int32.ofNat 0
  · rw [if_neg (fun z => z.1 c1)]
    simp (disch := omega) only [U139_0, U139_1, U139_2, U139_5, U139_8, U128_0, U128_1, U128_4, U128_5, U128_6, U128_9, U128_12, U128_15, U128_18, U128_23, U128_24, U128_27, U128_28, U128_31, k1, c1, Y139, show 1 ≤ rc_ h by omega, show 6 ≤ rs_ h by omega, i_add, i_mul, i_sub, i_addn, i_lt, i_eq, i_idx, i_vp, true_and, and_true, false_and, and_false, if_true, if_false, Nat.reduceAdd, Nat.reduceMul, Nat.reduceSub, Nat.reduceEqDiff, Option.some.injEq, exists_eq_left', true_or, or_true, false_or, or_false, not_true_eq_false, not_false_eq_true, eq_self, and_self, Nat.reduceLeDiff, decide_true, decide_false, ne_eq, Nat.left_eq_add, Nat.add_eq_left, Nat.add_left_cancel_iff, Nat.add_zero]
    exact E'.thr
  · obtain ⟨m, hm, rfl⟩ := i_nat c1
    have ei := i_idx hm
    by_cases c2 : m < es.length
    · rw [if_pos ⟨c1, by rw [ei]; exact c2⟩, ei]
      obtain ⟨e, f, ts, s1, s2, s3, s4, s5, -⟩ := L.line ok c2
      obtain ⟨hm2, hge⟩ := get_of s1
      simp (disch := omega) only [U139_0, U139_1, U139_2, U139_5, U139_8, U128_0, U128_1, U128_4, U128_5, U128_6, U128_9, U128_12, U128_15, U128_18, U128_23, U128_24, U128_27, U128_28, U128_31, V128, show ¬ m < 0 by omega, c2, k1, g9, l1, l3, p2.1, U46_0, U46_1, U46_4, U46_7, V46, AL_size p2, V219, sl, U44_0, U44_1, U44_4, U44_5, U44_8, U44_11, V44, AL_get p2 hm2, hge, V215, s4.1.1, U24_0, U24_1, U24_4, V24, s5.2.2, i_add, i_mul, i_sub, i_addn, i_lt, i_eq, i_idx, i_vp, true_and, and_true, false_and, and_false, if_true, if_false, Nat.reduceAdd, Nat.reduceMul, Nat.reduceSub, Nat.reduceEqDiff, Option.some.injEq, exists_eq_left', true_or, or_true, false_or, or_false, not_true_eq_false, not_false_eq_true, eq_self, and_self, Nat.reduceLeDiff, decide_true, decide_false, ne_eq, Nat.left_eq_add, Nat.add_eq_left, Nat.add_left_cancel_iff, Nat.add_zero]
      exact E'.ret
    · rw [if_neg (fun z => by have := z.2; rw [ei] at this; omega)]
      simp (disch := omega) only [U139_0, U139_1, U139_2, U139_5, U139_8, U128_0, U128_1, U128_4, U128_5, U128_6, U128_9, U128_12, U128_15, U128_18, U128_23, U128_24, U128_27, U128_28, U128_31, show ¬ m < 0 by omega, c2, k1, g9, l1, l3, p2.1, U46_0, U46_1, U46_4, U46_7, V46, AL_size p2, V219, sl, Y139, show 1 ≤ rc_ h by omega, show 6 ≤ rs_ h by omega, i_add, i_mul, i_sub, i_addn, i_lt, i_eq, i_idx, i_vp, true_and, and_true, false_and, and_false, if_true, if_false, Nat.reduceAdd, Nat.reduceMul, Nat.reduceSub, Nat.reduceEqDiff, Option.some.injEq, exists_eq_left', true_or, or_true, false_or, or_false, not_true_eq_false, not_false_eq_true, eq_self, and_self, Nat.reduceLeDiff, decide_true, decide_false, ne_eq, Nat.left_eq_add, Nat.add_eq_left, Nat.add_left_cancel_iff, Nat.add_zero]
      exact E'.thr
def abK (w : Int32) : Prop := w < -(Int32.ofNat 2) ∨ ¬ w < Int32.ofNat 6
def abD (w : Int32) : Decidable (abK w) := inferInstanceAs (Decidable (_ ∨ _))
def PQ (h : MH_) (x B C : Nat) (w : Int32) (y : Ev) (tx : List Nat) (si : List (List Tok)) (nm : Nat → List Nat) (ar : List Arg) (wr : Nat → Wr) (fl : List Nat) (du : Nat) (cu : Bool) (es : List Ev) (br : Nat) (tm : List Tm) : Rs_ → MH_ → Prop :=
  @ite _ (abK w) (abD w) (PZ h x B C (.inr 24) tx si nm ar wr fl du cu es br tm)
    (if w = -(Int32.ofNat 2) then PZ h x B C (.inl (.int (Int32.ofNat y.1))) tx si nm ar wr fl du cu es br tm
    else if w = -(Int32.ofNat 1) then PZ h x B C (.inl (.int (Int32.ofNat y.2.1))) tx si nm ar wr fl du cu es br tm
    else if w.toNatClampNeg < y.2.2.2.length then PZ h x B C (.inl (.int (numA y.2.2.2 w.toNatClampNeg))) tx si nm ar wr fl du cu es br tm
    else PZ h x B C (.inr 21) tx si nm ar wr fl du cu es br tm)
theorem neg_cases {w : Int32} (h1 : ¬ w < -(Int32.ofNat 2)) (h2 : ¬ w = -(Int32.ofNat 2)) (h3 : ¬ w = -(Int32.ofNat 1)) : ¬ w < Int32.ofNat 0 := by
  intro h4
  rw [Int32.lt_iff_toInt_lt] at h1 h4
  rw [← Int32.toInt_inj] at h2 h3
  rw [show (-(Int32.ofNat 2)).toInt = -2 by decide] at h1 h2
  rw [show (-(Int32.ofNat 1)).toInt = -1 by decide] at h3
  rw [show (Int32.ofNat 0).toInt = 0 by decide] at h4
  omega
theorem EL_about {k w : Int32} (ok : ∀ y ∈ es, okL si y) (E : EL h x (B + 20) (C + 20000) tx si nm ar wr fl du cu es br tm) : Wp 113 0 [.ref x, .int k, .int w, .null] [] h (@ite _ (liI k es) (liD k es) (PQ h x B C w (lnE es k.toNatClampNeg) tx si nm ar wr fl du cu es br tm) (PZ h x B C (.inr 21) tx si nm ar wr fl du cu es br tm)) := by
  have E' := E
  obtain ⟨rm1, rm2⟩ := E.room
  obtain ⟨t1, t2, a1, a2, d, sA, fs, pl, pr, sr, nA, H, Tt, R, P, F, Bq, I, Qq, N, L⟩ := E
  obtain ⟨k1, -, ⟨g5, g6, g7, g8, g9, g10, g11, g12⟩, -⟩ := H
  have l1 := L.1.1.1.1
  have l3 := L.1.1.1.2.2.1
  have p2 := L.1.2.1.2.1
  have sl := so_len (es := es) (pl := pl)
  have hl := p2.len
  by_cases c1 : k < Int32.ofNat 0
  · rw [if_neg (fun z => z.1 c1)]
    simp (disch := omega) only [U113_0, U113_1, U113_2, U113_5, U113_6, U113_7, U113_9, U113_12, U113_13, U113_15, U113_18, U113_21, U113_26, U113_27, U113_29, U113_32, U113_33, U113_36, U113_37, U113_38, U113_39, U113_42, U113_43, U113_46, U113_47, U113_48, U113_49, U113_52, U113_55, U113_58, U113_63, U113_64, U113_65, U113_68, U128_0, U128_1, U128_4, U128_5, U128_6, U128_9, U128_12, U128_15, U128_18, U128_23, U128_24, U128_27, U128_28, U128_31, k1, c1, Y113, show 1 ≤ rc_ h by omega, show 6 ≤ rs_ h by omega, i_add, i_mul, i_sub, i_addn, i_lt, i_eq, i_idx, i_vp, true_and, and_true, false_and, and_false, if_true, if_false, Nat.reduceAdd, Nat.reduceMul, Nat.reduceSub, Nat.reduceEqDiff, Option.some.injEq, exists_eq_left', true_or, or_true, false_or, or_false, not_true_eq_false, not_false_eq_true, eq_self, and_self, Nat.reduceLeDiff, decide_true, decide_false, ne_eq, Nat.left_eq_add, Nat.add_eq_left, Nat.add_left_cancel_iff, Nat.add_zero]
    exact E'.thr
  · obtain ⟨m, hm, rfl⟩ := i_nat c1
    have ei := i_idx hm
    by_cases c2 : m < es.length
    · rw [if_pos ⟨c1, by rw [ei]; exact c2⟩, ei]
      obtain ⟨e, f, ts, s1, s2, s3, s4, s5, -⟩ := L.line ok c2
      obtain ⟨hm2, hge⟩ := get_of s1
      have h6 := s4.2.1
      have reach : (Wp 113 6 [.ref x, .int (Int32.ofNat m), .int w, .ref e] [] h (PQ h x B C w (lnE es m) tx si nm ar wr fl du cu es br tm)) → Wp 113 0 [.ref x, .int (Int32.ofNat m), .int w, .null] [] h (PQ h x B C w (lnE es m) tx si nm ar wr fl du cu es br tm) := by
        intro z
        simp (disch := omega) only [U113_0, U113_1, U113_2, U113_5, U128_0, U128_1, U128_4, U128_5, U128_6, U128_9, U128_12, U128_15, U128_18, U128_23, U128_24, U128_27, U128_28, U128_31, V128, show ¬ m < 0 by omega, c2, k1, g9, l1, l3, p2.1, U46_0, U46_1, U46_4, U46_7, V46, AL_size p2, V219, sl, U44_0, U44_1, U44_4, U44_5, U44_8, U44_11, V44, AL_get p2 hm2, hge, V215, s4.1.1, i_add, i_mul, i_sub, i_addn, i_lt, i_eq, i_idx, i_vp, true_and, and_true, false_and, and_false, if_true, if_false, Nat.reduceAdd, Nat.reduceMul, Nat.reduceSub, Nat.reduceEqDiff, Option.some.injEq, exists_eq_left', true_or, or_true, false_or, or_false, not_true_eq_false, not_false_eq_true, eq_self, and_self, Nat.reduceLeDiff, decide_true, decide_false, ne_eq, Nat.left_eq_add, Nat.add_eq_left, Nat.add_left_cancel_iff, Nat.add_zero]
        exact z
      apply reach
      clear reach
      unfold PQ
      by_cases d1 : w < -(Int32.ofNat 2)
      · rw [if_pos (show abK w from Or.inl d1)]
        simp (disch := omega) only [U113_6, U113_7, U113_9, U113_12, U113_13, U113_15, U113_18, U113_21, U113_26, U113_27, U113_29, U113_32, U113_33, U113_36, U113_37, U113_38, U113_39, U113_42, U113_43, U113_46, U113_47, U113_48, U113_49, U113_52, U113_55, U113_58, U113_63, U113_64, U113_65, U113_68, d1, show 1 ≤ rc_ h by omega, show 6 ≤ rs_ h by omega, i_add, i_mul, i_sub, i_addn, i_lt, i_eq, i_idx, i_vp, true_and, and_true, false_and, and_false, if_true, if_false, Nat.reduceAdd, Nat.reduceMul, Nat.reduceSub, Nat.reduceEqDiff, Option.some.injEq, exists_eq_left', true_or, or_true, false_or, or_false, not_true_eq_false, not_false_eq_true, eq_self, and_self, Nat.reduceLeDiff, decide_true, decide_false, ne_eq, Nat.left_eq_add, Nat.add_eq_left, Nat.add_left_cancel_iff, Nat.add_zero]
        exact E'.thr
      · by_cases d2 : w < Int32.ofNat 6
        · rw [if_neg (show ¬ abK w from fun z => z.elim d1 (fun y => y d2))]
          by_cases d3 : w = -(Int32.ofNat 2)
          · rw [if_pos d3]
            subst d3
            simp (disch := omega) only [U113_6, U113_7, U113_9, U113_12, U113_13, U113_15, U113_18, U113_21, U113_26, U113_27, U113_29, U113_32, U113_33, U113_36, U113_37, U113_38, U113_39, U113_42, U113_43, U113_46, U113_47, U113_48, U113_49, U113_52, U113_55, U113_58, U113_63, U113_64, U113_65, U113_68, d1, d2, s4.1.1, U25_0, U25_1, U25_4, V25, s5.1, true_and, and_true, false_and, and_false, if_true, if_false, Nat.reduceAdd, Nat.reduceMul, Nat.reduceSub, Nat.reduceEqDiff, Option.some.injEq, exists_eq_left', true_or, or_true, false_or, or_false, not_true_eq_false, not_false_eq_true, eq_self, and_self, Nat.reduceLeDiff, decide_true, decide_false, ne_eq, Nat.left_eq_add, Nat.add_eq_left, Nat.add_left_cancel_iff, Nat.add_zero]
            exact E'.ret
          · rw [if_neg d3]
            by_cases d4 : w = -(Int32.ofNat 1)
            · rw [if_pos d4]
              subst d4
              simp (disch := omega) only [U113_6, U113_7, U113_9, U113_12, U113_13, U113_15, U113_18, U113_21, U113_26, U113_27, U113_29, U113_32, U113_33, U113_36, U113_37, U113_38, U113_39, U113_42, U113_43, U113_46, U113_47, U113_48, U113_49, U113_52, U113_55, U113_58, U113_63, U113_64, U113_65, U113_68, d1, d2, d3, s4.1.1, U21_0, U21_1, U21_4, V21, s5.2.1, true_and, and_true, false_and, and_false, if_true, if_false, Nat.reduceAdd, Nat.reduceMul, Nat.reduceSub, Nat.reduceEqDiff, Option.some.injEq, exists_eq_left', true_or, or_true, false_or, or_false, not_true_eq_false, not_false_eq_true, eq_self, and_self, Nat.reduceLeDiff, decide_true, decide_false, ne_eq, Nat.left_eq_add, Nat.add_eq_left, Nat.add_left_cancel_iff, Nat.add_zero]
              exact E'.ret
            · rw [if_neg d4]
              obtain ⟨q, hq, rfl⟩ := i_nat (neg_cases d1 d3 d4)
              rw [i_idx hq]
              by_cases d5 : q < (lnE es m).2.2.2.length
              · rw [if_pos d5]
                have d5' : Int32.ofNat q < Int32.ofNat (lnE es m).2.2.2.length := by rw [i_lt hq (by omega)]; exact d5
                simp (disch := omega) only [U113_6, U113_7, U113_9, U113_12, U113_13, U113_15, U113_18, U113_21, U113_26, U113_27, U113_29, U113_32, U113_33, U113_36, U113_37, U113_38, U113_39, U113_42, U113_43, U113_46, U113_47, U113_48, U113_49, U113_52, U113_55, U113_58, U113_63, U113_64, U113_65, U113_68, d1, d2, d3, d4, d5', s4.1.1, Event_held s4, V16, Event_numberAt s4, V20, true_and, and_true, false_and, and_false, if_true, if_false, Nat.reduceAdd, Nat.reduceMul, Nat.reduceSub, Nat.reduceEqDiff, Option.some.injEq, exists_eq_left', true_or, or_true, false_or, or_false, not_true_eq_false, not_false_eq_true, eq_self, and_self, Nat.reduceLeDiff, decide_true, decide_false, ne_eq, Nat.left_eq_add, Nat.add_eq_left, Nat.add_left_cancel_iff, Nat.add_zero]
                exact E'.ret
              · rw [if_neg d5]
                have d5' : ¬ Int32.ofNat q < Int32.ofNat (lnE es m).2.2.2.length := by rw [i_lt hq (by omega)]; exact d5
                simp (disch := omega) only [U113_6, U113_7, U113_9, U113_12, U113_13, U113_15, U113_18, U113_21, U113_26, U113_27, U113_29, U113_32, U113_33, U113_36, U113_37, U113_38, U113_39, U113_42, U113_43, U113_46, U113_47, U113_48, U113_49, U113_52, U113_55, U113_58, U113_63, U113_64, U113_65, U113_68, d1, d2, d3, d4, d5', s4.1.1, Event_held s4, V16, show 1 ≤ rc_ h by omega, show 6 ≤ rs_ h by omega, true_and, and_true, false_and, and_false, if_true, if_false, Nat.reduceAdd, Nat.reduceMul, Nat.reduceSub, Nat.reduceEqDiff, Option.some.injEq, exists_eq_left', true_or, or_true, false_or, or_false, not_true_eq_false, not_false_eq_true, eq_self, and_self, Nat.reduceLeDiff, decide_true, decide_false, ne_eq, Nat.left_eq_add, Nat.add_eq_left, Nat.add_left_cancel_iff, Nat.add_zero]
                exact E'.thr
        · rw [if_pos (show abK w from Or.inr d2)]
          simp (disch := omega) only [U113_6, U113_7, U113_9, U113_12, U113_13, U113_15, U113_18, U113_21, U113_26, U113_27, U113_29, U113_32, U113_33, U113_36, U113_37, U113_38, U113_39, U113_42, U113_43, U113_46, U113_47, U113_48, U113_49, U113_52, U113_55, U113_58, U113_63, U113_64, U113_65, U113_68, d1, d2, show 1 ≤ rc_ h by omega, show 6 ≤ rs_ h by omega, i_add, i_mul, i_sub, i_addn, i_lt, i_eq, i_idx, i_vp, true_and, and_true, false_and, and_false, if_true, if_false, Nat.reduceAdd, Nat.reduceMul, Nat.reduceSub, Nat.reduceEqDiff, Option.some.injEq, exists_eq_left', true_or, or_true, false_or, or_false, not_true_eq_false, not_false_eq_true, eq_self, and_self, Nat.reduceLeDiff, decide_true, decide_false, ne_eq, Nat.left_eq_add, Nat.add_eq_left, Nat.add_left_cancel_iff, Nat.add_zero]
          exact E'.thr
    · rw [if_neg (fun z => by have := z.2; rw [ei] at this; omega)]
      simp (disch := omega) only [U113_0, U113_1, U113_2, U113_5, U113_6, U113_7, U113_9, U113_12, U113_13, U113_15, U113_18, U113_21, U113_26, U113_27, U113_29, U113_32, U113_33, U113_36, U113_37, U113_38, U113_39, U113_42, U113_43, U113_46, U113_47, U113_48, U113_49, U113_52, U113_55, U113_58, U113_63, U113_64, U113_65, U113_68, U128_0, U128_1, U128_4, U128_5, U128_6, U128_9, U128_12, U128_15, U128_18, U128_23, U128_24, U128_27, U128_28, U128_31, show ¬ m < 0 by omega, c2, k1, g9, l1, l3, p2.1, U46_0, U46_1, U46_4, U46_7, V46, AL_size p2, V219, sl, Y113, show 1 ≤ rc_ h by omega, show 6 ≤ rs_ h by omega, i_add, i_mul, i_sub, i_addn, i_lt, i_eq, i_idx, i_vp, true_and, and_true, false_and, and_false, if_true, if_false, Nat.reduceAdd, Nat.reduceMul, Nat.reduceSub, Nat.reduceEqDiff, Option.some.injEq, exists_eq_left', true_or, or_true, false_or, or_false, not_true_eq_false, not_false_eq_true, eq_self, and_self, Nat.reduceLeDiff, decide_true, decide_false, ne_eq, Nat.left_eq_add, Nat.add_eq_left, Nat.add_left_cancel_iff, Nat.add_zero]
      exact E'.thr
end
