/-! ===== the class: rotate, crash ===== -/
section
variable {h h' : MH_} {x B C n w : Nat} {T : Nat → Nat → Prop} {tx : List Nat} {si : List (List Tok)} {nm : Nat → List Nat} {ar : List Arg} {wr : Nat → Wr} {fl : List Nat} {du : Nat} {cu : Bool} {es : List Ev} {br : Nat} {tm : List Tm}
def wrU (wr wn : Nat → Wr) (k : Nat) : Nat → Wr := fun q => if q < k then wn q else wr q
theorem wrU_s {wr wn : Nat → Wr} {k : Nat} : wrS (wrU wr wn k) k (wn k) = wrU wr wn (k + 1) := by
  funext q
  unfold wrS wrU
  by_cases h1 : q = k
  · subst h1; rw [if_pos rfl, if_pos (by omega)]
  · rw [if_neg h1]
    by_cases h2 : q < k
    · rw [if_pos h2, if_pos (by omega)]
    · rw [if_neg h2, if_neg (by omega)]
theorem XB.all {wn : Nat → Wr} (X : XB h x (wrU wr wn 4)) : XB h x wn := by
  intro w hw
  have := X w hw
  unfold wrU at this
  rw [if_pos hw] at this
  exact this
theorem EL_rotate (E : EL h x (B + 20) (C + 20000) tx si nm ar wr fl du cu es br tm) : Wp 132 0 [.ref x, .null] [] h (PZ h x B C (.inl .null) tx si nm ar (fun _ => ([], 0, 0)) [] 0 false es br tm) := by
  have hx := E.nx
  obtain ⟨t1, t2, a1, a2, d, sA, fs, pl, pr, sr, nA, H, Tt, R, P, F, Bq, I, Qq, N, L⟩ := E
  have H' := H
  obtain ⟨k1, ⟨g0, g1, g2, g3, g4⟩, ⟨g5, g6, g7, g8, g9, g10, g11, g12⟩, ⟨g13, g14, g15⟩⟩ := H
  obtain ⟨F1, F2, F3, F4, F5⟩ := F
  have key : ∀ n k h1, k + n = 4 → Fz (fun a _ => (x + 23 ≤ a ∧ a < x + 26) ∨ (x + 55 ≤ a ∧ a < x + 71)) h h1 → XF h1 x [] 0 false → XB h1 x (wrU wr (fun _ => ([], 0, 0)) k) → Wp 132 9 [.ref x, .int (Int32.ofNat k)] [] h1 (PZ h x B C (.inl .null) tx si nm ar (fun _ => ([], 0, 0)) [] 0 false es br tm) := by
    intro n
    induction n with
    | zero =>
      intro k h1 hk f1 xf xb
      obtain rfl : k = 4 := by omega
      rw [U132_9]
      simp (disch := omega) only [U132_0, U132_1, U132_4, U132_7, U132_8, U132_10, U132_11, U132_14, U132_15, U132_18, U132_19, U132_20, U132_23, U132_26, U132_29, show ¬ (4 : Nat) < 4 by omega, i_add, i_mul, i_sub, i_addn, i_lt, i_eq, i_idx, i_vp, true_and, and_true, false_and, and_false, if_true, if_false, Nat.reduceAdd, Nat.reduceMul, Nat.reduceSub, Nat.reduceEqDiff, Option.some.injEq, exists_eq_left', true_or, or_true, false_or, or_false, not_true_eq_false, not_false_eq_true, eq_self, and_self, Nat.reduceLeDiff, decide_true, decide_false, ne_eq, Nat.left_eq_add, Nat.add_eq_left, Nat.add_left_cancel_iff, Nat.add_zero]
      have f3 : Fa (fun a _ => (x + 23 ≤ a ∧ a < x + 26) ∨ (x + 55 ≤ a ∧ a < x + 71)) 20 20000 h h1 := f1.fa.mono (fun _ _ _ z => z) (Nat.zero_le _) (Nat.zero_le _)
      have g := f3.fb
      exact ⟨rfl, f3.fb.mono (fun a i _ z => Or.inl (by omega)), t1, t2, a1, a2, d, sA, fs, pl, pr, sr, nA, H'.fb g hx (by intro a i z w; omega), Tt.fb g hx (by intro a i z w; omega), R.fb g hx (by intro a i z w; omega), P.fb g hx (by intro a i z w; omega), xf, xb.all, I.fb g hx (by intro a i z w; omega), Qq.fb g hx (by intro a i z w; omega), N.fb' g hx (by intro a i z w; omega), L.fa f3 (by intro a i z w; omega)⟩
    | succ n ih =>
      intro k h1 hk f1 xf xb
      have hk4 : k < 4 := by omega
      have e15 := g15 k hk4
      obtain ⟨ft, bk, hft⟩ := xb k hk4
      rw [U132_9]
      simp (disch := omega) only [U132_0, U132_1, U132_4, U132_7, U132_8, U132_10, U132_11, U132_14, U132_15, U132_18, U132_19, U132_20, U132_23, U132_26, U132_29, f1.kd, f1.gP, f1.ln, k1, g6, g13, g14, e15, hk4, show kd_ h (x + 55 + 4 * k) = 1 by rw [← f1.kd]; exact bk.1.1, show (34 : Nat) ≤ 35 by omega, show (35 : Nat) ≤ 36 by omega, i_add, i_mul, i_sub, i_addn, i_lt, i_eq, i_idx, i_vp, true_and, and_true, false_and, and_false, if_true, if_false, Nat.reduceAdd, Nat.reduceMul, Nat.reduceSub, Nat.reduceEqDiff, Option.some.injEq, exists_eq_left', true_or, or_true, false_or, or_false, not_true_eq_false, not_false_eq_true, eq_self, and_self, Nat.reduceLeDiff, decide_true, decide_false, ne_eq, Nat.left_eq_add, Nat.add_eq_left, Nat.add_left_cancel_iff, Nat.add_zero]
      refine Wp_use (Block_beginFile bk) ?_
      rintro _ h2 ⟨rfl, bk2, f2⟩
      simp (disch := omega) only [V3, U132_0, U132_1, U132_4, U132_7, U132_8, U132_10, U132_11, U132_14, U132_15, U132_18, U132_19, U132_20, U132_23, U132_26, U132_29, i_add, i_mul, i_sub, i_addn, i_lt, i_eq, i_idx, i_vp, true_and, and_true, false_and, and_false, if_true, if_false, Nat.reduceAdd, Nat.reduceMul, Nat.reduceSub, Nat.reduceEqDiff, Option.some.injEq, exists_eq_left', true_or, or_true, false_or, or_false, not_true_eq_false, not_false_eq_true, eq_self, and_self, Nat.reduceLeDiff, decide_true, decide_false, ne_eq, Nat.left_eq_add, Nat.add_eq_left, Nat.add_left_cancel_iff, Nat.add_zero]
      have f2' : Fz (fun a _ => x + 55 + 4 * k ≤ a ∧ a < x + 59 + 4 * k) h1 h2 := f2.mono (fun a i z => by unfold SB SR at z; omega)
      have hx1 : x + 104 ≤ nx_ h1 := by rw [f1.nx]; exact hx
      refine ih (k + 1) h2 (by omega) (f1.trans (f2'.mono (fun a i z => by omega))) (xf.fb f2'.fb hx1 (by intro a i z w; omega)) ?_
      rw [← wrU_s]
      exact xb.upd f2'.fb hx1 (fun a i z => by omega) ⟨ft, bk2, fun z => absurd rfl z⟩
  simp (disch := omega) only [U132_0, U132_1, U132_4, k1, g8, F1.1, U54_0, U54_1, U54_4, F1.2, F2.1, i_add, i_mul, i_sub, i_addn, i_lt, i_eq, i_idx, i_vp, true_and, and_true, false_and, and_false, if_true, if_false, Nat.reduceAdd, Nat.reduceMul, Nat.reduceSub, Nat.reduceEqDiff, Option.some.injEq, exists_eq_left', true_or, or_true, false_or, or_false, not_true_eq_false, not_false_eq_true, eq_self, and_self, Nat.reduceLeDiff, decide_true, decide_false, ne_eq, Nat.left_eq_add, Nat.add_eq_left, Nat.add_left_cancel_iff, Nat.add_zero]
  refine Wp_use (Row_begin F2) ?_
  rintro _ h1 ⟨rfl, r1, f1⟩
  have f2 : Fz (fun a i => a = x + 23 ∧ (i = 1 ∨ i = 2)) h1 (sI_ (sI_ h1 (x + 23) 1 (Int32.ofNat 0)) (x + 23) 2 (Int32.ofNat 0)) := (Fz.rfl'.sI ⟨rfl, Or.inl rfl⟩).sI ⟨rfl, Or.inr rfl⟩
  simp (disch := omega) only [V86, U54_0, U54_1, U54_4, U54_7, U54_8, U54_9, U54_12, U54_13, U54_14, U54_17, V54, U132_0, U132_1, U132_4, U132_7, U132_8, U132_10, U132_11, U132_14, U132_15, U132_18, U132_19, U132_20, U132_23, U132_26, U132_29, z_kd_sI, f1.kd, F1.1, i_add, i_mul, i_sub, i_addn, i_lt, i_eq, i_idx, i_vp, true_and, and_true, false_and, and_false, if_true, if_false, Nat.reduceAdd, Nat.reduceMul, Nat.reduceSub, Nat.reduceEqDiff, Option.some.injEq, exists_eq_left', true_or, or_true, false_or, or_false, not_true_eq_false, not_false_eq_true, eq_self, and_self, Nat.reduceLeDiff, decide_true, decide_false, ne_eq, Nat.left_eq_add, Nat.add_eq_left, Nat.add_left_cancel_iff, Nat.add_zero]
  have f12 : Fz (fun a _ => (x + 23 ≤ a ∧ a < x + 26) ∨ (x + 55 ≤ a ∧ a < x + 71)) h (sI_ (sI_ h1 (x + 23) 1 (Int32.ofNat 0)) (x + 23) 2 (Int32.ofNat 0)) := (f1.mono (fun a i z => by unfold SR at z; omega)).trans (f2.mono (fun a i z => by omega))
  have f12' : Fz (fun a _ => x + 23 ≤ a ∧ a < x + 26) h (sI_ (sI_ h1 (x + 23) 1 (Int32.ofNat 0)) (x + 23) 2 (Int32.ofNat 0)) := (f1.mono (fun a i z => by unfold SR at z; omega)).trans (f2.mono (fun a i z => by omega))
  refine key 4 0 _ (by omega) f12 ⟨F1.fz f12, r1.fz f2 (by unfold SR; intro a i z w; omega), ?_, ?_, Nat.zero_le _⟩ ?_
  · rw [z_gI_sI, if_neg (by omega), z_gI_sI, if_pos ⟨rfl, rfl⟩]
  · rw [z_gI_sI, if_pos ⟨rfl, rfl⟩]; rfl
  · have : wrU wr (fun _ => ([], 0, 0)) 0 = wr := by funext q; unfold wrU; rw [if_neg (by omega)]
    rw [this]
    exact Bq.fb f12'.fb hx (by intro a i z w; omega)
def wrC (wr : Nat → Wr) : Nat → Wr := fun q => ([], (wr q).2.1, (wr q).2.2)
def flC (fl : List Nat) (du n : Nat) : List Nat := fl.take (du + min n (fl.length - du))
theorem EL_crash {n : Int32} (E : EL h x (B + 20) (C + 20000) tx si nm ar wr fl du cu es br tm) : Wp 119 0 [.ref x, .int n, .null] [] h (if n < Int32.ofNat 0 then PZ h x B C (.inr 22) tx si nm ar wr fl du cu es br tm else if cu = true then PZ h x B C (.inr 23) tx si nm ar wr fl du cu es br tm else PZ h x B C (.inl (.int (Int32.ofNat (flC fl du n.toNatClampNeg).length))) tx si nm ar (wrC wr) (flC fl du n.toNatClampNeg) du true es br tm) := by
  have E' := E
  have hx := E.nx
  obtain ⟨rm1, rm2⟩ := E.room
  obtain ⟨t1, t2, a1, a2, d, sA, fs, pl, pr, sr, nA, H, Tt, R, P, F, Bq, I, Qq, N, L⟩ := E
  have H' := H
  obtain ⟨k1, ⟨g0, g1, g2, g3, g4⟩, ⟨g5, g6, g7, g8, g9, g10, g11, g12⟩, ⟨g13, g14, g15⟩⟩ := H
  obtain ⟨F1, F2, F3, F4, F5⟩ := F
  have hl := F2.2.2.2.2.2.1
  by_cases c1 : n < Int32.ofNat 0
  · rw [if_pos c1]
    simp (disch := omega) only [U119_0, U119_1, U119_4, U119_7, U119_12, U119_13, U119_16, U119_19, U119_22, U119_25, U119_30, U119_31, U119_33, U119_34, U119_37, U119_38, U119_41, U119_42, U119_43, U119_46, U119_49, U119_52, U119_53, U119_56, U119_57, U119_60, U119_61, U119_64, U119_67, c1, show 1 ≤ rc_ h by omega, show 6 ≤ rs_ h by omega, i_add, i_mul, i_sub, i_addn, i_lt, i_eq, i_idx, i_vp, true_and, and_true, false_and, and_false, if_true, if_false, Nat.reduceAdd, Nat.reduceMul, Nat.reduceSub, Nat.reduceEqDiff, Option.some.injEq, exists_eq_left', true_or, or_true, false_or, or_false, not_true_eq_false, not_false_eq_true, eq_self, and_self, Nat.reduceLeDiff, decide_true, decide_false, ne_eq, Nat.left_eq_add, Nat.add_eq_left, Nat.add_left_cancel_iff, Nat.add_zero]
    exact E'.thr
  · rw [if_neg c1]
    by_cases c2 : cu = true
    · rw [if_pos c2]
      have F4' : gI_ h (x + 23) 2 = Int32.ofNat 1 := by rw [F4]; exact (bz_t c2).symm
      simp (disch := omega) only [U119_0, U119_1, U119_4, U119_7, U119_12, U119_13, U119_16, U119_19, U119_22, U119_25, U119_30, U119_31, U119_33, U119_34, U119_37, U119_38, U119_41, U119_42, U119_43, U119_46, U119_49, U119_52, U119_53, U119_56, U119_57, U119_60, U119_61, U119_64, U119_67, c1, k1, g8, F1.1, U57_0, U57_1, U57_4, V57, F4', show ¬ (1 : Nat) = 0 by omega, show 1 ≤ rc_ h by omega, show 6 ≤ rs_ h by omega, i_add, i_mul, i_sub, i_addn, i_lt, i_eq, i_idx, i_vp, true_and, and_true, false_and, and_false, if_true, if_false, Nat.reduceAdd, Nat.reduceMul, Nat.reduceSub, Nat.reduceEqDiff, Option.some.injEq, exists_eq_left', true_or, or_true, false_or, or_false, not_true_eq_false, not_false_eq_true, eq_self, and_self, Nat.reduceLeDiff, decide_true, decide_false, ne_eq, Nat.left_eq_add, Nat.add_eq_left, Nat.add_left_cancel_iff, Nat.add_zero]
      exact E'.thr
    · rw [if_neg c2]
      have F4' : gI_ h (x + 23) 2 = Int32.ofNat 0 := by rw [F4]; exact (bz_f c2).symm
      obtain ⟨m, hm, rfl⟩ := i_nat c1
      rw [i_idx hm]
      have key : ∀ n k h1, k + n = 4 → Fz (fun a _ => x + 55 ≤ a ∧ a < x + 71) h h1 → XB h1 x (wrU wr (wrC wr) k) → Wp 119 32 [.ref x, .int (Int32.ofNat m), .int (Int32.ofNat k)] [] h1 (PZ h x B C (.inl (.int (Int32.ofNat (flC fl du m).length))) tx si nm ar (wrC wr) (flC fl du m) du true es br tm) := by
        intro n
        induction n with
        | zero =>
          intro k h1 hk f1 xb
          obtain rfl : k = 4 := by omega
          have F1' := F1.fz f1
          have F2' := F2.fz f1 (by unfold SR; intro a i z w; omega)
          rw [U119_32]
          simp (disch := omega) only [U119_0, U119_1, U119_4, U119_7, U119_12, U119_13, U119_16, U119_19, U119_22, U119_25, U119_30, U119_31, U119_33, U119_34, U119_37, U119_38, U119_41, U119_42, U119_43, U119_46, U119_49, U119_52, U119_53, U119_56, U119_57, U119_60, U119_61, U119_64, U119_67, f1.kd, f1.gP, k1, g8, F1.1, show ¬ (4 : Nat) < 4 by omega, i_add, i_mul, i_sub, i_addn, i_lt, i_eq, i_idx, i_vp, true_and, and_true, false_and, and_false, if_true, if_false, Nat.reduceAdd, Nat.reduceMul, Nat.reduceSub, Nat.reduceEqDiff, Option.some.injEq, exists_eq_left', true_or, or_true, false_or, or_false, not_true_eq_false, not_false_eq_true, eq_self, and_self, Nat.reduceLeDiff, decide_true, decide_false, ne_eq, Nat.left_eq_add, Nat.add_eq_left, Nat.add_left_cancel_iff, Nat.add_zero]
          refine Wp_use (File_cutBehind F1' F2' (by rw [f1.gI (by omega)]; exact F3) F5 hm) ?_
          rintro _ h2 ⟨rfl, r2, e2, f2⟩
          have F1'' := F1'.fz f2
          simp (disch := omega) only [V55, U119_0, U119_1, U119_4, U119_7, U119_12, U119_13, U119_16, U119_19, U119_22, U119_25, U119_30, U119_31, U119_33, U119_34, U119_37, U119_38, U119_41, U119_42, U119_43, U119_46, U119_49, U119_52, U119_53, U119_56, U119_57, U119_60, U119_61, U119_64, U119_67, f2.kd, f2.gP, f1.kd, f1.gP, k1, g8, F1.1, File_held F1'' r2, V56, i_add, i_mul, i_sub, i_addn, i_lt, i_eq, i_idx, i_vp, true_and, and_true, false_and, and_false, if_true, if_false, Nat.reduceAdd, Nat.reduceMul, Nat.reduceSub, Nat.reduceEqDiff, Option.some.injEq, exists_eq_left', true_or, or_true, false_or, or_false, not_true_eq_false, not_false_eq_true, eq_self, and_self, Nat.reduceLeDiff, decide_true, decide_false, ne_eq, Nat.left_eq_add, Nat.add_eq_left, Nat.add_left_cancel_iff, Nat.add_zero]
          have f2' : Fz (fun a _ => x + 23 ≤ a ∧ a < x + 26) h1 h2 := f2.mono (fun a i z => by unfold SR at z; omega)
          have f3 : Fa (fun a _ => (x + 23 ≤ a ∧ a < x + 26) ∨ (x + 55 ≤ a ∧ a < x + 71)) 20 20000 h h2 := ((f1.mono (fun a i z => Or.inr z)).trans (f2'.mono (fun a i z => Or.inl z))).fa.mono (fun _ _ _ z => z) (Nat.zero_le _) (Nat.zero_le _)
          have g := f3.fb
          refine ⟨rfl, f3.fb.mono (fun a i _ z => Or.inl (by omega)), t1, t2, a1, a2, d, sA, fs, pl, pr, sr, nA, H'.fb g hx (by intro a i z w; omega), Tt.fb g hx (by intro a i z w; omega), R.fb g hx (by intro a i z w; omega), P.fb g hx (by intro a i z w; omega), ⟨F1'', r2, by rw [f2.gI (by unfold SR; omega), f1.gI (by omega)]; exact F3, by rw [e2]; rfl, ?_⟩, (xb.all).fb f2'.fb (by rw [f1.nx]; exact hx) (by intro a i z w; omega), I.fb g hx (by intro a i z w; omega), Qq.fb g hx (by intro a i z w; omega), N.fb' g hx (by intro a i z w; omega), L.fa f3 (by intro a i z w; omega)⟩
          unfold flC
          rw [List.length_take]
          omega
        | succ n ih =>
          intro k h1 hk f1 xb
          have hk4 : k < 4 := by omega
          have e15 := g15 k hk4
          obtain ⟨ft, bk, hft⟩ := xb k hk4
          have ew : wrU wr (wrC wr) k k = wr k := by unfold wrU; rw [if_neg (by omega)]
          rw [ew] at bk
          obtain ⟨b1, b2, b3, b4, b5, b6, b7⟩ := bk
          rw [U119_32]
          simp (disch := omega) only [U119_0, U119_1, U119_4, U119_7, U119_12, U119_13, U119_16, U119_19, U119_22, U119_25, U119_30, U119_31, U119_33, U119_34, U119_37, U119_38, U119_41, U119_42, U119_43, U119_46, U119_49, U119_52, U119_53, U119_56, U119_57, U119_60, U119_61, U119_64, U119_67, f1.kd, f1.gP, f1.ln, k1, g6, g13, g14, e15, hk4, show kd_ h (x + 55 + 4 * k) = 1 by rw [← f1.kd]; exact b1.1, show (34 : Nat) ≤ 35 by omega, show (35 : Nat) ≤ 36 by omega, i_add, i_mul, i_sub, i_addn, i_lt, i_eq, i_idx, i_vp, true_and, and_true, false_and, and_false, if_true, if_false, Nat.reduceAdd, Nat.reduceMul, Nat.reduceSub, Nat.reduceEqDiff, Option.some.injEq, exists_eq_left', true_or, or_true, false_or, or_false, not_true_eq_false, not_false_eq_true, eq_self, and_self, Nat.reduceLeDiff, decide_true, decide_false, ne_eq, Nat.left_eq_add, Nat.add_eq_left, Nat.add_left_cancel_iff, Nat.add_zero]
          refine Wp_use (Block_beginBlock b1 b2) ?_
          rintro _ h2 ⟨rfl, r2, la2, f2⟩
          simp (disch := omega) only [V2, U119_0, U119_1, U119_4, U119_7, U119_12, U119_13, U119_16, U119_19, U119_22, U119_25, U119_30, U119_31, U119_33, U119_34, U119_37, U119_38, U119_41, U119_42, U119_43, U119_46, U119_49, U119_52, U119_53, U119_56, U119_57, U119_60, U119_61, U119_64, U119_67, i_add, i_mul, i_sub, i_addn, i_lt, i_eq, i_idx, i_vp, true_and, and_true, false_and, and_false, if_true, if_false, Nat.reduceAdd, Nat.reduceMul, Nat.reduceSub, Nat.reduceEqDiff, Option.some.injEq, exists_eq_left', true_or, or_true, false_or, or_false, not_true_eq_false, not_false_eq_true, eq_self, and_self, Nat.reduceLeDiff, decide_true, decide_false, ne_eq, Nat.left_eq_add, Nat.add_eq_left, Nat.add_left_cancel_iff, Nat.add_zero]
          have f2' : Fz (fun a _ => x + 55 + 4 * k ≤ a ∧ a < x + 59 + 4 * k) h1 h2 := f2.mono (fun a i z => by unfold SR at z; omega)
          have hx1 : x + 104 ≤ nx_ h1 := by rw [f1.nx]; exact hx
          refine ih (k + 1) h2 (by omega) (f1.trans (f2'.mono (fun a i z => by omega))) ?_
          rw [← wrU_s]
          exact xb.upd f2'.fb hx1 (fun a i z => by omega) ⟨ft, ⟨b1.fz f2, r2, by rw [f2.gI (by unfold SR; omega)]; exact b3, by rw [f2.gI (by unfold SR; omega)]; exact b4, by rw [f2.gJ (by unfold SR; omega)]; exact b5, by rw [f2.gJ (by unfold SR; omega)]; exact b6, la2⟩, fun z => absurd rfl z⟩
      simp (disch := omega) only [U119_0, U119_1, U119_4, U119_7, U119_12, U119_13, U119_16, U119_19, U119_22, U119_25, U119_30, U119_31, U119_33, U119_34, U119_37, U119_38, U119_41, U119_42, U119_43, U119_46, U119_49, U119_52, U119_53, U119_56, U119_57, U119_60, U119_61, U119_64, U119_67, show ¬ m < 0 by omega, k1, g8, F1.1, U57_0, U57_1, U57_4, V57, F4', i_add, i_mul, i_sub, i_addn, i_lt, i_eq, i_idx, i_vp, true_and, and_true, false_and, and_false, if_true, if_false, Nat.reduceAdd, Nat.reduceMul, Nat.reduceSub, Nat.reduceEqDiff, Option.some.injEq, exists_eq_left', true_or, or_true, false_or, or_false, not_true_eq_false, not_false_eq_true, eq_self, and_self, Nat.reduceLeDiff, decide_true, decide_false, ne_eq, Nat.left_eq_add, Nat.add_eq_left, Nat.add_left_cancel_iff, Nat.add_zero]
      refine key 4 0 h (by omega) Fz.rfl' ?_
      have : wrU wr (wrC wr) 0 = wr := by funext q; unfold wrU; rw [if_neg (by omega)]
      rw [this]
      exact Bq
end
