/-! ===== Printer: print ===== -/
theorem slts_at {ts : List Tok} {k : Nat} {q : Nat × Nat} (hk : k < ts.length) (h : ts[k] = .inr q) : (slts ts)[(slts (ts.take k)).length]? = some q ∧ (slts (ts.take (k + 1))).length = (slts (ts.take k)).length + 1 := by
  have e1 : ts.take (k + 1) = ts.take k ++ [.inr q] := by rw [List.take_add_one, List.getElem?_eq_getElem hk, h]; rfl
  have e2 : slts ts = slts (ts.take k) ++ (q :: slts (ts.drop (k + 1))) := by
    conv => lhs; rw [← List.take_append_drop k ts, List.drop_eq_getElem_cons hk, h]
    rw [slts_app]; rfl
  constructor
  · rw [e2, List.getElem?_append_right (Nat.le_refl _), Nat.sub_self]; rfl
  · rw [e1, slts_q]
theorem slts_sg {ts : List Tok} {k b : Nat} (hk : k < ts.length) (h : ts[k] = .inl b) : (slts (ts.take (k + 1))).length = (slts (ts.take k)).length := by
  have e1 : ts.take (k + 1) = ts.take k ++ [.inl b] := by rw [List.take_add_one, List.getElem?_eq_getElem hk, h]; rfl
  rw [e1, slts_s]
theorem slts_le {ts : List Tok} {k : Nat} : (slts (ts.take k)).length ≤ (slts ts).length := by
  conv => rhs; rw [← List.take_append_drop k ts, slts_app, List.length_append]
  omega
theorem slT_len {nm : Nat → List Nat} {k d : Nat} {a : Arg} (hd : d < 8) (hn : ∀ q, q < 256 → (nm q).length ≤ 12) (ha : ∀ t, a = .inr t → t.length ≤ 16) : (slT nm k d a).length ≤ 16 := by
  unfold slT
  split
  · have := @prD_len (bvI (nv a)) 0 10; omega
  · split
    · have := @prD_len (bvI (nv a)) 0 16; omega
    · split
      · split
        · have := @prS_len (nv a) 0; omega
        · rename_i hx
          have h1 : ¬ nv a < Int32.ofNat 0 := fun z => hx (Or.inl z)
          have h2 : nv a < Int32.ofNat 32 := Classical.byContradiction fun z => hx (Or.inr (Or.inl z))
          obtain ⟨c, hc, e⟩ := i_nat h1
          rw [e, i_lt hc (by omega)] at h2
          rw [e, i_idx hc]
          have := hn (d * 32 + c) (by omega)
          omega
      · split
        · split
          · exact ha _ rfl
          · exact Nat.zero_le _
        · have := @prS_len (nv a) d; omega
theorem fit_len {ts : List Tok} {as : List Arg} (h : fit ts as = true) : as.length = (slts ts).length := by
  unfold fit at h
  rw [Bool.and_eq_true, decide_eq_true_eq, decide_eq_true_eq] at h
  exact h.1
theorem fit_at {ts : List Tok} {as : List Arg} (h : fit ts as = true) {j : Nat} (hj : j < (slts ts).length) : isN as j = true ↔ ¬ kdS ts j = 116 := by
  unfold fit at h
  rw [Bool.and_eq_true, decide_eq_true_eq, decide_eq_true_eq] at h
  exact h.2 j hj
theorem Printer_print {h : MH_} {p f e : Nat} {nm : Nat → List Nat} {ts : List Tok} {as : List Arg} {l0 : List Nat} (hp : Pr h p) (hn : Nm h (p + 1) nm) (hr : Rw h (p + 4) 176 l0) (hf : Fs h f) (hc : Fc h f ts) (ho : okS ts) (he : Ea h e as) (hfit : fit ts as = true) (ae : e + 4 ≤ p ∨ p + 7 ≤ e) (af : f + 6 ≤ p ∨ p + 7 ≤ f) : Wp 71 0 [.ref p, .ref e, .ref f, .null, .null] [] h (fun w h' => w = .inl (.ref (p + 4)) ∧ Rw h' (p + 4) 176 (prF nm as ts 0) ∧ Fz (SP p) h h') := by
  have c2 := hc.2.1
  have c4 := hc.2.2.2.1
  have hal := fit_len hfit
  have key : ∀ n k u l (y : Value), k + n = ts.length → Fz (SP p) h u → Rw u (p + 4) 176 l → prF nm as ts 0 = l ++ prF nm as (ts.drop k) (slts (ts.take k)).length → l.length ≤ k + 16 * (slts (ts.take k)).length → Wp 71 9 [.ref p, .ref e, .ref f, .int (Int32.ofNat k), y] [] u (fun w h' => w = .inl (.ref (p + 4)) ∧ Rw h' (p + 4) 176 (prF nm as ts 0) ∧ Fz (SP p) h h') := by
    intro n
    induction n with
    | zero =>
      intro k u l y hk z hr hl hlen
      have hp1 := hp.fz z
      have hf1 := hf.fz z
      have hc1 : Fc u f ts := hc.fz z (by unfold SF SP SR; intro a i y1 y2; omega)
      rw [U71_9]
      simp (disch := omega) only [U71_0, U71_1, U71_4, U71_7, U71_8, U71_10, U71_11, U71_14, U71_17, U71_18, U71_19, U71_22, U71_24, U71_26, U71_29, U71_30, U71_33, U71_35, U71_38, U71_41, U71_42, U71_43, U71_44, U71_46, U71_47, U71_48, U71_51, U71_54, U71_57, U71_58, U71_61, hf1.1, hp1.1, hp1.2.2.1, Format_pieceCount hf1 hc1, V36, show ¬ k < ts.length by omega, i_add, i_mul, i_sub, i_addn, i_lt, i_eq, i_idx, i_vp, true_and, and_true, false_and, and_false, if_true, if_false, Nat.reduceAdd, Nat.reduceMul, Nat.reduceSub, Nat.reduceEqDiff, Option.some.injEq, exists_eq_left', true_or, or_true, false_or, or_false, not_true_eq_false, not_false_eq_true, eq_self, and_self, Nat.reduceLeDiff, decide_true, decide_false, ne_eq, Nat.left_eq_add, Nat.add_eq_left, Nat.add_left_cancel_iff, Nat.add_zero]
      rw [List.drop_of_length_le (by omega), prF, List.append_nil] at hl
      rw [hl]
      exact ⟨hr, z⟩
    | succ n ih =>
      intro k u l y hk z hr hl hlen
      have hp1 := hp.fz z
      have hf1 := hf.fz z
      have hc1 : Fc u f ts := hc.fz z (by unfold SF SP SR; intro a i y1 y2; omega)
      have he1 : Ea u e as := he.fz z (by unfold SE SP SR; intro a i y1 y2; omega)
      have hn1 : Nm u (p + 1) nm := hn.fz z (by unfold SN SP SR; intro a i y1 y2; omega)
      have hkt : k < ts.length := by omega
      have hpc : pcv ts k = match ts[k] with | .inl b => Int32.ofNat b | .inr _ => -(Int32.ofNat 1) - Int32.ofNat (slts (ts.take k)).length := by
        unfold pcv
        rw [List.getElem?_eq_getElem hkt]
        cases ts[k] <;> rfl
      have hok := ho _ (List.getElem_mem hkt)
      rw [List.drop_eq_getElem_cons hkt] at hl
      have hle := @slts_le ts k
      rw [U71_9]
      simp (disch := omega) only [U71_0, U71_1, U71_4, U71_7, U71_8, U71_10, U71_11, U71_14, U71_17, U71_18, U71_19, U71_22, U71_24, U71_26, U71_29, U71_30, U71_33, U71_35, U71_38, U71_41, U71_42, U71_43, U71_44, U71_46, U71_47, U71_48, U71_51, U71_54, U71_57, U71_58, U71_61, hf1.1, hp1.1, hp1.2.2.1, hr.1, Format_pieceCount hf1 hc1, V36, Format_pieceAt hf1 hc1, V35, hkt, hpc, i_add, i_mul, i_sub, i_addn, i_lt, i_eq, i_idx, i_vp, true_and, and_true, false_and, and_false, if_true, if_false, Nat.reduceAdd, Nat.reduceMul, Nat.reduceSub, Nat.reduceEqDiff, Option.some.injEq, exists_eq_left', true_or, or_true, false_or, or_false, not_true_eq_false, not_false_eq_true, eq_self, and_self, Nat.reduceLeDiff, decide_true, decide_false, ne_eq, Nat.left_eq_add, Nat.add_eq_left, Nat.add_left_cancel_iff, Nat.add_zero]
      cases hx : ts[k] with
      | inl b =>
        rw [hx] at hl hok
        simp only [okT] at hok
        simp (disch := omega) only [show ¬ b < 0 by omega, i_add, i_mul, i_sub, i_addn, i_lt, i_eq, i_idx, i_vp, true_and, and_true, false_and, and_false, if_true, if_false, Nat.reduceAdd, Nat.reduceMul, Nat.reduceSub, Nat.reduceEqDiff, Option.some.injEq, exists_eq_left', true_or, or_true, false_or, or_false, not_true_eq_false, not_false_eq_true, eq_self, and_self, Nat.reduceLeDiff, decide_true, decide_false, ne_eq, Nat.left_eq_add, Nat.add_eq_left, Nat.add_left_cancel_iff, Nat.add_zero]
        refine Wp_use (Row_put hr (by omega)) ?_
        rintro _ h1 ⟨rfl, hr1, f1⟩
        simp (disch := omega) only [V93, U71_0, U71_1, U71_4, U71_7, U71_8, U71_10, U71_11, U71_14, U71_17, U71_18, U71_19, U71_22, U71_24, U71_26, U71_29, U71_30, U71_33, U71_35, U71_38, U71_41, U71_42, U71_43, U71_44, U71_46, U71_47, U71_48, U71_51, U71_54, U71_57, U71_58, U71_61, i_add, i_mul, i_sub, i_addn, i_lt, i_eq, i_idx, i_vp, true_and, and_true, false_and, and_false, if_true, if_false, Nat.reduceAdd, Nat.reduceMul, Nat.reduceSub, Nat.reduceEqDiff, Option.some.injEq, exists_eq_left', true_or, or_true, false_or, or_false, not_true_eq_false, not_false_eq_true, eq_self, and_self, Nat.reduceLeDiff, decide_true, decide_false, ne_eq, Nat.left_eq_add, Nat.add_eq_left, Nat.add_left_cancel_iff, Nat.add_zero]
        rw [lo8_of, Nat.mod_eq_of_lt (by omega)] at hr1
        refine ih (k + 1) h1 _ _ (by omega) (z.trans (f1.mono (fun a i z => Or.inl z))) hr1 ?_ ?_
        · rw [slts_sg hkt hx, hl, prF, List.append_assoc]; rfl
        · rw [slts_sg hkt hx, List.length_append, List.length_singleton]; omega
      | inr q =>
        obtain ⟨kk, dd⟩ := q
        rw [hx] at hl hok
        have s12 := slts_at (ts := ts) (k := k) (q := (kk, dd)) hkt hx
        have s1 := s12.1
        have s2 := s12.2
        have hj : (slts (ts.take k)).length < (slts ts).length := by
          rcases Nat.lt_or_ge (slts (ts.take k)).length (slts ts).length with y | y
          · exact y
          · rw [List.getElem?_eq_none y] at s1; cases s1
        have hja : (slts (ts.take k)).length < as.length := by omega
        have ga : as[(slts (ts.take k)).length]? = some (as.getD (slts (ts.take k)).length (.inl (Int32.ofNat 0))) := by
          rw [List.getD_eq_getElem?_getD, List.getElem?_eq_getElem hja]; rfl
        have gt : ∀ t, as.getD (slts (ts.take k)).length (.inl (Int32.ofNat 0)) = .inr t → t.length ≤ 16 := by
          intro t ht
          have c := he1.2.2.2 _ hja
          rw [List.getElem?_eq_getElem hja, Option.some.injEq] at ga
          rw [ga, ht] at c
          exact c.2.2.1
        have g116 : kk = 116 → ∃ t, as.getD (slts (ts.take k)).length (.inl (Int32.ofNat 0)) = .inr t := by
          intro hk116
          have h1 := fit_at hfit hj
          have h2 : kdS ts (slts (ts.take k)).length = 116 := by unfold kdS; rw [s1]; exact hk116
          have h3 : ¬ isN as (slts (ts.take k)).length = true := fun y => (h1.mp y) h2
          unfold isN at h3
          rw [ga] at h3
          cases hq : as.getD (slts (ts.take k)).length (.inl (Int32.ofNat 0)) with
          | inl x => rw [hq] at h3; exact absurd rfl h3
          | inr t => exact ⟨t, rfl⟩
        have hd8 : dd < 8 := by simp only [okT] at hok; omega
        have hsl := slT_len (nm := nm) (k := kk) hd8 (fun q hq => (hn1.2 q hq).1) gt
        simp (disch := omega) only [neg_slot (show (slts (ts.take k)).length < 6 by omega), sub_back, true_and, and_true, false_and, and_false, if_true, if_false, Nat.reduceAdd, Nat.reduceMul, Nat.reduceSub, Nat.reduceEqDiff, Option.some.injEq, exists_eq_left', true_or, or_true, false_or, or_false, not_true_eq_false, not_false_eq_true, eq_self, and_self, Nat.reduceLeDiff, decide_true, decide_false, ne_eq, Nat.left_eq_add, Nat.add_eq_left, Nat.add_left_cancel_iff, Nat.add_zero]
        refine Wp_use (Printer_printSlot hp1 hn1 hr hf1 hc1 he1 s1 hok ga g116 (by omega) ae af) ?_
        rintro _ h1 ⟨rfl, hr1, f1⟩
        simp (disch := omega) only [V74, U71_0, U71_1, U71_4, U71_7, U71_8, U71_10, U71_11, U71_14, U71_17, U71_18, U71_19, U71_22, U71_24, U71_26, U71_29, U71_30, U71_33, U71_35, U71_38, U71_41, U71_42, U71_43, U71_44, U71_46, U71_47, U71_48, U71_51, U71_54, U71_57, U71_58, U71_61, i_add, i_mul, i_sub, i_addn, i_lt, i_eq, i_idx, i_vp, true_and, and_true, false_and, and_false, if_true, if_false, Nat.reduceAdd, Nat.reduceMul, Nat.reduceSub, Nat.reduceEqDiff, Option.some.injEq, exists_eq_left', true_or, or_true, false_or, or_false, not_true_eq_false, not_false_eq_true, eq_self, and_self, Nat.reduceLeDiff, decide_true, decide_false, ne_eq, Nat.left_eq_add, Nat.add_eq_left, Nat.add_left_cancel_iff, Nat.add_zero]
        refine ih (k + 1) h1 _ _ (by omega) (z.trans f1) hr1 ?_ ?_
        · rw [s2, hl, prF, List.append_assoc]
        · rw [s2, List.length_append]; omega
  simp (disch := omega) only [U71_0, U71_1, U71_4, U71_7, U71_8, U71_10, U71_11, U71_14, U71_17, U71_18, U71_19, U71_22, U71_24, U71_26, U71_29, U71_30, U71_33, U71_35, U71_38, U71_41, U71_42, U71_43, U71_44, U71_46, U71_47, U71_48, U71_51, U71_54, U71_57, U71_58, U71_61, hp.1, hp.2.2.1, hr.1, true_and, and_true, false_and, and_false, if_true, if_false, Nat.reduceAdd, Nat.reduceMul, Nat.reduceSub, Nat.reduceEqDiff, Option.some.injEq, exists_eq_left', true_or, or_true, false_or, or_false, not_true_eq_false, not_false_eq_true, eq_self, and_self, Nat.reduceLeDiff, decide_true, decide_false, ne_eq, Nat.left_eq_add, Nat.add_eq_left, Nat.add_left_cancel_iff, Nat.add_zero]
  refine Wp_use (Row_begin hr) ?_
  rintro _ h1 ⟨rfl, hr1, f1⟩
  simp (disch := omega) only [V86, U71_0, U71_1, U71_4, U71_7, U71_8, U71_10, U71_11, U71_14, U71_17, U71_18, U71_19, U71_22, U71_24, U71_26, U71_29, U71_30, U71_33, U71_35, U71_38, U71_41, U71_42, U71_43, U71_44, U71_46, U71_47, U71_48, U71_51, U71_54, U71_57, U71_58, U71_61, i_add, i_mul, i_sub, i_addn, i_lt, i_eq, i_idx, i_vp, true_and, and_true, false_and, and_false, if_true, if_false, Nat.reduceAdd, Nat.reduceMul, Nat.reduceSub, Nat.reduceEqDiff, Option.some.injEq, exists_eq_left', true_or, or_true, false_or, or_false, not_true_eq_false, not_false_eq_true, eq_self, and_self, Nat.reduceLeDiff, decide_true, decide_false, ne_eq, Nat.left_eq_add, Nat.add_eq_left, Nat.add_left_cancel_iff, Nat.add_zero]
  exact key ts.length 0 h1 [] _ (by omega) (f1.mono (fun a i z => Or.inl z)) hr1 (by rw [List.nil_append]; rfl) (Nat.zero_le _)
