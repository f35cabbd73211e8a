/-! ===== the class: find, count, distinct ===== -/
section
variable {h h' : MH_} {x B C n w : Nat} {tx : List Nat} {si : List (List Tok)} {nm : Nat → List Nat} {ar : List Arg} {wr : Nat → Wr} {fl : List Nat} {du : Nat} {cu : Bool} {es : List Ev} {br : Nat} {tm : List Tm}
theorem EL.lines (E : EL h x B C tx si nm ar wr fl du cu es br tm) : es.length ≤ 500000 := by
  obtain ⟨t1, t2, a1, a2, d, sA, fs, pl, pr, sr, nA, H, Tt, R, P, F, Bq, I, Qq, N, L⟩ := E
  have := L.1.2.1.2.1.len
  rw [so_len] at this
  exact this
theorem EL_find {fr : Int32} (ok : ∀ y ∈ es, okL si y) (E : EL h x (B + 20) (C + 20000) tx si nm ar wr fl du cu es br tm) : Wp 122 0 [.ref x, .int fr, .null, .null] [] h (PZ h x B C (.inl (.int (fnF (fun k => hld nm si tm (lnE es k)) (es.length - fr.toNatClampNeg) fr.toNatClampNeg))) tx si nm ar wr fl du cu es br tm) := by
  have key : ∀ n k h1 y, n = es.length - k → k < 2147483648 → Fz (SP (x + 33)) h h1 → EL h1 x (B + 20) (C + 20000) tx si nm ar wr fl du cu es br tm → Wp 122 6 [.ref x, .int fr, .int (Int32.ofNat k), y] [] h1 (PZ h x B C (.inl (.int (fnF (fun k => hld nm si tm (lnE es k)) n k))) tx si nm ar wr fl du cu es br tm) := by
    intro n
    induction n with
    | zero =>
      intro k h1 y hk hk2 f1 E1
      have E' := E1
      have hl := E1.lines
      obtain ⟨t1, t2, a1, a2, d, sA, fs, pl, pr, sr, nA, H, Tt, R, P, F, Bq, I, Qq, N, L⟩ := E1
      obtain ⟨k1, -, ⟨g5, g6, g7, g8, g9, g10, g11, g12⟩, -⟩ := H
      have l1 := L.1.1.1.1
      have l3 := L.1.1.1.2.2.1
      have p2 := L.1.2.1.2.1
      have sl := so_len (es := es) (pl := pl)
      rw [U122_6]
      simp (disch := omega) only [U122_0, U122_1, U122_2, U122_5, U122_7, U122_8, U122_11, U122_14, U122_17, U122_18, U122_21, U122_22, U122_25, U122_26, U122_27, U122_30, U122_31, U122_32, U122_33, U122_36, U122_37, U122_40, U122_43, U122_46, U122_47, U122_48, U122_51, U122_54, U122_55, k1, g9, l1, l3, p2.1, U46_0, U46_1, U46_4, U46_7, V46, AL_size p2, V219, sl, show ¬ k < es.length by omega, i_add, i_mul, i_sub, i_addn, i_lt, i_eq, i_idx, i_vp, true_and, and_true, false_and, and_false, if_true, if_false, Nat.reduceAdd, Nat.reduceMul, Nat.reduceSub, Nat.reduceEqDiff, Option.some.injEq, exists_eq_left', true_or, or_true, false_or, or_false, not_true_eq_false, not_false_eq_true, eq_self, and_self, Nat.reduceLeDiff, decide_true, decide_false, ne_eq, Nat.left_eq_add, Nat.add_eq_left, Nat.add_left_cancel_iff, Nat.add_zero]
      exact PZ.tr f1.fy SP_SX _ _ E'.ret
    | succ n ih =>
      intro k h1 y hk hk2 f1 E1
      have E' := E1
      have hl := E1.lines
      obtain ⟨t1, t2, a1, a2, d, sA, fs, pl, pr, sr, nA, H, Tt, R, P, F, Bq, I, Qq, N, L⟩ := E1
      obtain ⟨k1, -, ⟨g5, g6, g7, g8, g9, g10, g11, g12⟩, -⟩ := H
      have l1 := L.1.1.1.1
      have l3 := L.1.1.1.2.2.1
      have p2 := L.1.2.1.2.1
      have p3 := L.1.2.1.2.2
      have sl := so_len (es := es) (pl := pl)
      have hkl : k < es.length := by omega
      have kq := Qq.1.1.1
      obtain ⟨e, f, ts, s1, s2, s3, s4, s5, s6, s7, s8, s9, s10, s11, s12⟩ := L.line ok hkl
      obtain ⟨hm2, hge⟩ := get_of s1
      obtain ⟨hs2, hgf⟩ := get_of s2
      have hl3 := p3.len
      rw [U122_6]
      simp (disch := omega) only [U122_0, U122_1, U122_2, U122_5, U122_7, U122_8, U122_11, U122_14, U122_17, U122_18, U122_21, U122_22, U122_25, U122_26, U122_27, U122_30, U122_31, U122_32, U122_33, U122_36, U122_37, U122_40, U122_43, U122_46, U122_47, U122_48, U122_51, U122_54, U122_55, k1, g5, g9, g10, g11, l1, l3, p2.1, p3.1, I.1.1, kq, U46_0, U46_1, U46_4, U46_7, V46, AL_size p2, V219, sl, hkl, U44_0, U44_1, U44_4, U44_5, U44_8, U44_11, V44, AL_get p2 hm2, hge, V215, s4.1.1, U124_0, U124_1, U124_4, U124_5, U124_6, U124_9, U124_10, U124_11, U124_14, U124_17, U124_20, U124_21, U124_24, U124_25, U124_28, U124_31, U124_34, U124_35, U124_38, V124, U21_0, U21_1, U21_4, V21, s5.2.1, AL_size p3, Nat.not_lt_zero, hs2, AL_get p3 hs2, hgf, s6.1.1, i_add, i_mul, i_sub, i_addn, i_lt, i_eq, i_idx, i_vp, true_and, and_true, false_and, and_false, if_true, if_false, Nat.reduceAdd, Nat.reduceMul, Nat.reduceSub, Nat.reduceEqDiff, Option.some.injEq, exists_eq_left', true_or, or_true, false_or, or_false, not_true_eq_false, not_false_eq_true, eq_self, and_self, Nat.reduceLeDiff, decide_true, decide_false, ne_eq, Nat.left_eq_add, Nat.add_eq_left, Nat.add_left_cancel_iff, Nat.add_zero]
      refine hold_step ok hkl E' s3 s4 s5 s6 s7 s8 s9 s10 ?_
      intro h2 f2 E2
      have eF : fnF (fun k => hld nm si tm (lnE es k)) (n + 1) k = if hld nm si tm (lnE es k) = true then Int32.ofNat k else fnF (fun k => hld nm si tm (lnE es k)) n (k + 1) := rfl
      rw [eF]
      by_cases hh : hld nm si tm (lnE es k) = true
      · rw [if_pos hh, ← bz_t hh]
        simp (disch := omega) only [V80, U122_0, U122_1, U122_2, U122_5, U122_7, U122_8, U122_11, U122_14, U122_17, U122_18, U122_21, U122_22, U122_25, U122_26, U122_27, U122_30, U122_31, U122_32, U122_33, U122_36, U122_37, U122_40, U122_43, U122_46, U122_47, U122_48, U122_51, U122_54, U122_55, show ¬ (1 : Nat) = 0 by omega, i_add, i_mul, i_sub, i_addn, i_lt, i_eq, i_idx, i_vp, true_and, and_true, false_and, and_false, if_true, if_false, Nat.reduceAdd, Nat.reduceMul, Nat.reduceSub, Nat.reduceEqDiff, Option.some.injEq, exists_eq_left', true_or, or_true, false_or, or_false, not_true_eq_false, not_false_eq_true, eq_self, and_self, Nat.reduceLeDiff, decide_true, decide_false, ne_eq, Nat.left_eq_add, Nat.add_eq_left, Nat.add_left_cancel_iff, Nat.add_zero]
        exact PZ.tr (f1.trans f2).fy SP_SX _ _ E2.ret
      · rw [if_neg hh, ← bz_f hh]
        simp (disch := omega) only [V80, U122_0, U122_1, U122_2, U122_5, U122_7, U122_8, U122_11, U122_14, U122_17, U122_18, U122_21, U122_22, U122_25, U122_26, U122_27, U122_30, U122_31, U122_32, U122_33, U122_36, U122_37, U122_40, U122_43, U122_46, U122_47, U122_48, U122_51, U122_54, U122_55, i_add, i_mul, i_sub, i_addn, i_lt, i_eq, i_idx, i_vp, true_and, and_true, false_and, and_false, if_true, if_false, Nat.reduceAdd, Nat.reduceMul, Nat.reduceSub, Nat.reduceEqDiff, Option.some.injEq, exists_eq_left', true_or, or_true, false_or, or_false, not_true_eq_false, not_false_eq_true, eq_self, and_self, Nat.reduceLeDiff, decide_true, decide_false, ne_eq, Nat.left_eq_add, Nat.add_eq_left, Nat.add_left_cancel_iff, Nat.add_zero]
        exact ih (k + 1) h2 _ (by omega) (by omega) (f1.trans f2) E2
  by_cases c1 : fr < Int32.ofNat 0
  · have e0 : fr.toNatClampNeg = 0 := by
      rw [Int32.lt_iff_toInt_lt] at c1
      rw [show (Int32.ofNat 0).toInt = 0 by decide] at c1
      exact Int.toNat_of_nonpos (by omega)
    rw [e0]
    simp (disch := omega) only [U122_0, U122_1, U122_2, U122_5, U226_0, U226_1, U226_2, U226_5, U226_6, U226_9, U226_10, V226, c1, true_and, and_true, false_and, and_false, if_true, if_false, Nat.reduceAdd, Nat.reduceMul, Nat.reduceSub, Nat.reduceEqDiff, Option.some.injEq, exists_eq_left', true_or, or_true, false_or, or_false, not_true_eq_false, not_false_eq_true, eq_self, and_self, Nat.reduceLeDiff, decide_true, decide_false, ne_eq, Nat.left_eq_add, Nat.add_eq_left, Nat.add_left_cancel_iff, Nat.add_zero]
    exact key _ 0 h _ rfl (by omega) Fz.rfl' E
  · obtain ⟨m, hm, rfl⟩ := i_nat c1
    rw [i_idx hm]
    simp (disch := omega) only [U122_0, U122_1, U122_2, U122_5, Math_max, V226, Nat.max_zero, i_add, i_mul, i_sub, i_addn, i_lt, i_eq, i_idx, i_vp, true_and, and_true, false_and, and_false, if_true, if_false, Nat.reduceAdd, Nat.reduceMul, Nat.reduceSub, Nat.reduceEqDiff, Option.some.injEq, exists_eq_left', true_or, or_true, false_or, or_false, not_true_eq_false, not_false_eq_true, eq_self, and_self, Nat.reduceLeDiff, decide_true, decide_false, ne_eq, Nat.left_eq_add, Nat.add_eq_left, Nat.add_left_cancel_iff, Nat.add_zero]
    exact key _ m h _ rfl hm Fz.rfl' E
theorem ctF_le {p : Nat → Bool} : ∀ n k, ctF p n k ≤ n
  | 0, _ => Nat.le_refl _
  | n + 1, k => by unfold ctF; have := ctF_le (p := p) n (k + 1); split <;> omega
theorem EL_count (ok : ∀ y ∈ es, okL si y) (E : EL h x (B + 20) (C + 20000) tx si nm ar wr fl du cu es br tm) : Wp 118 0 [.ref x, .null, .null, .null] [] h (PZ h x B C (.inl (.int (Int32.ofNat (ctF (fun k => hld nm si tm (lnE es k)) es.length 0)))) tx si nm ar wr fl du cu es br tm) := by
  have key : ∀ n k c h1 y, k + n = es.length → c ≤ k → Fz (SP (x + 33)) h h1 → EL h1 x (B + 20) (C + 20000) tx si nm ar wr fl du cu es br tm → Wp 118 4 [.ref x, .int (Int32.ofNat c), .int (Int32.ofNat k), y] [] h1 (PZ h x B C (.inl (.int (Int32.ofNat (c + ctF (fun k => hld nm si tm (lnE es k)) n k)))) tx si nm ar wr fl du cu es br tm) := by
    intro n
    induction n with
    | zero =>
      intro k c h1 y hk hk2 f1 E1
      have E' := E1
      have hl := E1.lines
      obtain ⟨t1, t2, a1, a2, d, sA, fs, pl, pr, sr, nA, H, Tt, R, P, F, Bq, I, Qq, N, L⟩ := E1
      obtain ⟨k1, -, ⟨g5, g6, g7, g8, g9, g10, g11, g12⟩, -⟩ := H
      have l1 := L.1.1.1.1
      have l3 := L.1.1.1.2.2.1
      have p2 := L.1.2.1.2.1
      have sl := so_len (es := es) (pl := pl)
      rw [U118_4]
      simp (disch := omega) only [U118_0, U118_1, U118_2, U118_3, U118_5, U118_6, U118_9, U118_12, U118_15, U118_16, U118_19, U118_20, U118_23, U118_24, U118_25, U118_28, U118_29, U118_30, U118_31, U118_34, U118_35, U118_38, U118_41, U118_44, U118_47, U118_50, U118_53, U118_54, k1, g9, l1, l3, p2.1, U46_0, U46_1, U46_4, U46_7, V46, AL_size p2, V219, sl, show ¬ k < es.length by omega, i_add, i_mul, i_sub, i_addn, i_lt, i_eq, i_idx, i_vp, true_and, and_true, false_and, and_false, if_true, if_false, Nat.reduceAdd, Nat.reduceMul, Nat.reduceSub, Nat.reduceEqDiff, Option.some.injEq, exists_eq_left', true_or, or_true, false_or, or_false, not_true_eq_false, not_false_eq_true, eq_self, and_self, Nat.reduceLeDiff, decide_true, decide_false, ne_eq, Nat.left_eq_add, Nat.add_eq_left, Nat.add_left_cancel_iff, Nat.add_zero]
      exact PZ.tr f1.fy SP_SX _ _ E'.ret
    | succ n ih =>
      intro k c h1 y hk hk2 f1 E1
      have E' := E1
      have hl := E1.lines
      obtain ⟨t1, t2, a1, a2, d, sA, fs, pl, pr, sr, nA, H, Tt, R, P, F, Bq, I, Qq, N, L⟩ := E1
      obtain ⟨k1, -, ⟨g5, g6, g7, g8, g9, g10, g11, g12⟩, -⟩ := H
      have l1 := L.1.1.1.1
      have l3 := L.1.1.1.2.2.1
      have p2 := L.1.2.1.2.1
      have p3 := L.1.2.1.2.2
      have sl := so_len (es := es) (pl := pl)
      have hkl : k < es.length := by omega
      have kq := Qq.1.1.1
      obtain ⟨e, f, ts, s1, s2, s3, s4, s5, s6, s7, s8, s9, s10, s11, s12⟩ := L.line ok hkl
      obtain ⟨hm2, hge⟩ := get_of s1
      obtain ⟨hs2, hgf⟩ := get_of s2
      have hl3 := p3.len
      rw [U118_4]
      simp (disch := omega) only [U118_0, U118_1, U118_2, U118_3, U118_5, U118_6, U118_9, U118_12, U118_15, U118_16, U118_19, U118_20, U118_23, U118_24, U118_25, U118_28, U118_29, U118_30, U118_31, U118_34, U118_35, U118_38, U118_41, U118_44, U118_47, U118_50, U118_53, U118_54, k1, g5, g9, g10, g11, l1, l3, p2.1, p3.1, I.1.1, kq, U46_0, U46_1, U46_4, U46_7, V46, AL_size p2, V219, sl, hkl, U44_0, U44_1, U44_4, U44_5, U44_8, U44_11, V44, AL_get p2 hm2, hge, V215, s4.1.1, U124_0, U124_1, U124_4, U124_5, U124_6, U124_9, U124_10, U124_11, U124_14, U124_17, U124_20, U124_21, U124_24, U124_25, U124_28, U124_31, U124_34, U124_35, U124_38, V124, U21_0, U21_1, U21_4, V21, s5.2.1, AL_size p3, Nat.not_lt_zero, hs2, AL_get p3 hs2, hgf, s6.1.1, i_add, i_mul, i_sub, i_addn, i_lt, i_eq, i_idx, i_vp, true_and, and_true, false_and, and_false, if_true, if_false, Nat.reduceAdd, Nat.reduceMul, Nat.reduceSub, Nat.reduceEqDiff, Option.some.injEq, exists_eq_left', true_or, or_true, false_or, or_false, not_true_eq_false, not_false_eq_true, eq_self, and_self, Nat.reduceLeDiff, decide_true, decide_false, ne_eq, Nat.left_eq_add, Nat.add_eq_left, Nat.add_left_cancel_iff, Nat.add_zero]
      refine hold_step ok hkl E' s3 s4 s5 s6 s7 s8 s9 s10 ?_
      intro h2 f2 E2
      have eF : ctF (fun k => hld nm si tm (lnE es k)) (n + 1) k = (if hld nm si tm (lnE es k) = true then 1 else 0) + ctF (fun k => hld nm si tm (lnE es k)) n (k + 1) := rfl
      rw [eF]
      by_cases hh : hld nm si tm (lnE es k) = true
      · rw [if_pos hh, ← bz_t hh, ← Nat.add_assoc]
        simp (disch := omega) only [V80, U118_0, U118_1, U118_2, U118_3, U118_5, U118_6, U118_9, U118_12, U118_15, U118_16, U118_19, U118_20, U118_23, U118_24, U118_25, U118_28, U118_29, U118_30, U118_31, U118_34, U118_35, U118_38, U118_41, U118_44, U118_47, U118_50, U118_53, U118_54, show ¬ (1 : Nat) = 0 by omega, i_add, i_mul, i_sub, i_addn, i_lt, i_eq, i_idx, i_vp, true_and, and_true, false_and, and_false, if_true, if_false, Nat.reduceAdd, Nat.reduceMul, Nat.reduceSub, Nat.reduceEqDiff, Option.some.injEq, exists_eq_left', true_or, or_true, false_or, or_false, not_true_eq_false, not_false_eq_true, eq_self, and_self, Nat.reduceLeDiff, decide_true, decide_false, ne_eq, Nat.left_eq_add, Nat.add_eq_left, Nat.add_left_cancel_iff, Nat.add_zero]
        exact ih (k + 1) (c + 1) h2 _ (by omega) (by omega) (f1.trans f2) E2
      · rw [if_neg hh, ← bz_f hh, Nat.zero_add]
        simp (disch := omega) only [V80, U118_0, U118_1, U118_2, U118_3, U118_5, U118_6, U118_9, U118_12, U118_15, U118_16, U118_19, U118_20, U118_23, U118_24, U118_25, U118_28, U118_29, U118_30, U118_31, U118_34, U118_35, U118_38, U118_41, U118_44, U118_47, U118_50, U118_53, U118_54, i_add, i_mul, i_sub, i_addn, i_lt, i_eq, i_idx, i_vp, true_and, and_true, false_and, and_false, if_true, if_false, Nat.reduceAdd, Nat.reduceMul, Nat.reduceSub, Nat.reduceEqDiff, Option.some.injEq, exists_eq_left', true_or, or_true, false_or, or_false, not_true_eq_false, not_false_eq_true, eq_self, and_self, Nat.reduceLeDiff, decide_true, decide_false, ne_eq, Nat.left_eq_add, Nat.add_eq_left, Nat.add_left_cancel_iff, Nat.add_zero]
        exact ih (k + 1) c h2 _ (by omega) (by omega) (f1.trans f2) E2
  simp (disch := omega) only [U118_0, U118_1, U118_2, U118_3, i_add, i_mul, i_sub, i_addn, i_lt, i_eq, i_idx, i_vp, true_and, and_true, false_and, and_false, if_true, if_false, Nat.reduceAdd, Nat.reduceMul, Nat.reduceSub, Nat.reduceEqDiff, Option.some.injEq, exists_eq_left', true_or, or_true, false_or, or_false, not_true_eq_false, not_false_eq_true, eq_self, and_self, Nat.reduceLeDiff, decide_true, decide_false, ne_eq, Nat.left_eq_add, Nat.add_eq_left, Nat.add_left_cancel_iff, Nat.add_zero]
  have q := key es.length 0 0 h .null (by omega) (by omega) Fz.rfl' E
  rw [Nat.zero_add] at q
  exact q
theorem XL.nA {sA d pr sr nA : Nat} {fs pl : List Nat} {T : Nat → Nat → Prop} (X : XL h x sA d fs si pl pr sr es br (B + n) (C + w)) (N : XN h x nA d fs pl) (f : Fa T n w h h') (hT : ∀ a i, T a i → (x + 31 ≤ a ∧ a < x + 71) ∨ a = nA) : XL h' x sA d fs si pl pr sr es br B C := by
  obtain ⟨⟨S, ns⟩, y1, y2, y3, y4, y5⟩ := N
  have knA := ns.1.2.2.1
  obtain ⟨⟨⟨⟨k1, k2, k3, k4⟩, u1, u2, u3, u4⟩, ⟨p1, p2, p3⟩, r2, ⟨e1, e2⟩, ⟨v1, sp, v2⟩⟩, ⟨⟨n1, n2, n3, n4⟩, b1, b2, ⟨b3, b4, b5⟩, ⟨b6, b7, b8⟩⟩, ⟨d1, d2, d3⟩, P, ⟨q1, q2⟩, rt, q3⟩ := X
  have F := f.fb
  have nx := F.1
  have em := F.2.2.1.1
  have kp := p1.kd
  have ks := p2.kd
  have kA := p3.kd
  have a1 : ∀ a, (kd_ h a = 34 ∨ kd_ h a = 38) → (a < x ∨ x + 104 ≤ a) → a < nx_ h → Ag a 1 h h' := by
    intro a ka z1 z2
    refine F.ag z2 (fun c i z3 z4 y => ?_)
    have hc : c = a := by omega
    rcases hT c i y with y | y
    · omega
    · rw [← hc, y] at ka; omega
  have gl : Ag (x + 26) 5 h h' := F.ag (by omega) (fun a i z3 z4 y => by have := hT a i y; omega)
  have kd : ∀ a, a < nx_ h → kd_ h' a = kd_ h a := fun a ha => (F.2.1 a ha).1
  have gd : Ag d 6 h h' := F.ag b4 (fun a i z3 z4 y => by have := hT a i y; clear b6 b7 b8; omega)
  have ge : ∀ e ∈ pl, Ag e 4 h h' := fun e he => F.ag (b1 e he).2 (fun a i z3 z4 y => by have := hT a i y; have := (b1 e he).1; have := y2 e he; clear b6 b7 b8 b3 y4; omega)
  have gf : ∀ g ∈ fs, Ag g 6 h h' := fun g hg => F.ag (b2 g hg).2 (fun a i z3 z4 y => by have := hT a i y; have := (b2 g hg).1; have := y3 g hg; clear b6 b7 b8 b3 y4; omega)
  refine ⟨⟨⟨⟨by rw [gl.kd _ (by omega) (by omega), k1], by rw [gl.gP _ _ (by omega) (by omega), k2], by rw [gl.gP _ _ (by omega) (by omega), k3], by rw [gl.gP _ _ (by omega) (by omega), k4]⟩, ⟨by rw [gl.kd _ (by omega) (by omega), u1], by rw [gl.gP _ _ (by omega) (by omega), u2], by rw [gl.kd _ (by omega) (by omega), u3], by rw [gl.ln _ (by omega) (by omega), u4]⟩⟩, ⟨p1.ag em (gl.sub (by omega) (by omega)) (a1 pr kp (b6.imp And.left id) n3), p2.ag em (gl.sub (by omega) (by omega)) (a1 sr ks (b7.imp And.left id) n4), p3.ag em (F.ag (by omega) (fun a i z3 z4 y => by have := hT a i y; clear b6 b7 b8 b3 y4; omega)) (a1 sA kA (b8.imp And.left id) n2)⟩, ⟨r2.1, r2.2.1, fun i g ts hg hts => ?_⟩, ⟨fun e he => (e1 e he).ag (ge e he), e2⟩, ⟨v1.ag gd, sp, v2.ag (gd.sub (by omega) (by omega))⟩⟩, ⟨⟨Nat.le_trans n1 nx, Nat.lt_of_lt_of_le n2 nx, Nat.lt_of_lt_of_le n3 nx, Nat.lt_of_lt_of_le n4 nx⟩, fun e he => ⟨(b1 e he).1, Nat.le_trans (b1 e he).2 nx⟩, fun g hg => ⟨(b2 g hg).1, Nat.le_trans (b2 g hg).2 nx⟩, ⟨b3, Nat.le_trans b4 nx, b5⟩, ⟨by rw [kd pr n3]; exact b6, by rw [kd sr n4]; exact b7, by rw [kd sA n2]; exact b8⟩⟩, ⟨by rw [kd pr n3]; exact d1, by rw [kd pr n3]; exact d2, by rw [kd sr n4]; exact d3⟩, ?_, ⟨by rw [gl.gI _ _ (by omega) (by omega), q1], by rw [gl.gI _ _ (by omega) (by omega), q2]⟩, rt.fa f n3 n4, by rw [(F.2.1 sA n2).2]; exact q3⟩
  · obtain ⟨fo, ok⟩ := r2.2.2 i g ts hg hts
    exact ⟨fo.ag (gf g (List.mem_of_getElem? hg)), ok⟩
  · refine ⟨P.1, fun i e y h1 h2 => ?_⟩
    obtain ⟨q1, q2⟩ := P.2 i e y h1 h2
    have g := ge e (List.mem_of_getElem? h1)
    exact ⟨q1.ag g, q2.ag g⟩
theorem EL.nset {nA nA' : Nat} {S S' : List Int32} {T : Nat → Nat → Prop} (E : EL h x (B + n) (C + w) tx si nm ar wr fl du cu es br tm) (hn : Ns h (x + 53) nA S) (f : Fa T n w h h') (hT : ∀ a i, T a i → a = x + 53 ∨ a = nA) (hn' : Ns h' (x + 53) nA' S') (ha : nA' = nA ∨ nA' = nx_ h) (hl : nA' < nx_ h') : EL h' x B C tx si nm ar wr fl du cu es br tm := by
  have hx := E.nx
  obtain ⟨t1, t2, a1, a2, d, sA, fs, pl, pr, sr, nB, H, Tt, R, P, F, Bq, I, Qq, N, L⟩ := E
  have eq : nB = nA := by
    obtain ⟨S0, n0⟩ := N.1
    exact Option.some.inj (n0.1.2.1.symm.trans hn.1.2.1)
  subst eq
  have g := f.fb
  have y1 := N.2.1
  have z : ∀ a i, (x ≤ a ∧ a < x + 53) ∨ (x + 55 ≤ a ∧ a < x + 104) → ¬ T a i := fun a i y v => by have := hT a i v; omega
  refine ⟨t1, t2, a1, a2, d, sA, fs, pl, pr, sr, nA', H.fb g hx (fun a i y => z a i (by omega)), Tt.fb g hx (fun a i y => z a i (by omega)), R.fb g hx (fun a i y => z a i (by omega)), P.fb g hx (fun a i y => z a i (by omega)), F.fb g hx (fun a i y => z a i (by omega)), Bq.fb g hx (fun a i y => z a i (by omega)), I.fb g hx (fun a i y => z a i (by omega)), Qq.fb g hx (fun a i y => z a i (by omega)), ?_, L.nA N f (fun a i y => by have := hT a i y; omega)⟩
  obtain ⟨-, -, y2, y3, y4, y5⟩ := N
  obtain ⟨-, ⟨⟨n1, n2, n3, n4⟩, b1, b2, ⟨b3, b4, b5⟩, -⟩, -⟩ := L
  rcases ha with rfl | rfl
  · exact ⟨⟨S', hn'⟩, y1, y2, y3, y4, hl⟩
  · exact ⟨⟨S', hn'⟩, Or.inr (by omega), fun e he => Or.inr (b1 e he).2, fun f hf => Or.inr (b2 f hf).2, Or.inr b4, hl⟩
end
