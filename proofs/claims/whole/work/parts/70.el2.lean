/-! ===== the class: frames, throws, the text and the arguments ===== -/
def SX (x : Nat) : Nat → Nat → Prop := fun a _ => (x ≤ a ∧ a < x + 71) ∨ x + 104 ≤ a
def RV (r : Value ⊕ Nat) (v : Rs_) (h' : MH_) : Prop := match r with
  | .inl u => v = .inl u
  | .inr k => ∃ a, v = .inr a ∧ kd_ h' a = k
section
variable {h h' : MH_} {x B C n w : Nat} {T : Nat → Nat → Prop} {tx : List Nat} {si : List (List Tok)} {nm : Nat → List Nat} {ar : List Arg} {wr : Nat → Wr} {fl : List Nat} {du : Nat} {cu : Bool} {es : List Ev} {br : Nat} {tm : List Tm}
def PZ (h : MH_) (x B C : Nat) (r : Value ⊕ Nat) (tx : List Nat) (si : List (List Tok)) (nm : Nat → List Nat) (ar : List Arg) (wr : Nat → Wr) (fl : List Nat) (du : Nat) (cu : Bool) (es : List Ev) (br : Nat) (tm : List Tm) : Rs_ → MH_ → Prop := fun v h' => RV r v h' ∧ Fb (SX x) h h' ∧ EL h' x B C tx si nm ar wr fl du cu es br tm
theorem EL.nx (E : EL h x B C tx si nm ar wr fl du cu es br tm) : x + 104 ≤ nx_ h := by
  obtain ⟨t1, t2, a1, a2, d, sA, fs, pl, pr, sr, nA, H, Tt, R, P, F, Bq, I, Qq, N, L⟩ := E
  exact L.2.1.1.1
theorem EL.room (E : EL h x (B + n) (C + w) tx si nm ar wr fl du cu es br tm) : n ≤ rc_ h ∧ w ≤ rs_ h := by
  obtain ⟨t1, t2, a1, a2, d, sA, fs, pl, pr, sr, nA, H, Tt, R, P, F, Bq, I, Qq, N, L⟩ := E
  obtain ⟨⟨m1, m2, m3⟩, m4⟩ := L.2.2.2.2.2.1
  omega
theorem EL.fa (E : EL h x (B + n) (C + w) tx si nm ar wr fl du cu es br tm) (f : Fa T n w h h') (hT : ∀ a i, T a i → x + 71 ≤ a ∧ a < x + 104) : EL h' x B C tx si nm ar wr fl du cu es br tm := by
  have hx := E.nx
  obtain ⟨t1, t2, a1, a2, d, sA, fs, pl, pr, sr, nA, H, Tt, R, P, F, Bq, I, Qq, N, L⟩ := E
  have g := f.fb
  have z : ∀ a i, (a < x + 71 ∨ x + 104 ≤ a) → ¬ T a i := fun a i y w => by have := hT a i w; omega
  exact ⟨t1, t2, a1, a2, d, sA, fs, pl, pr, sr, nA, H.fb g hx (fun a i y => z a i (by omega)), Tt.fb g hx (fun a i y => z a i (by omega)), R.fb g hx (fun a i y => z a i (by omega)), P.fb g hx (fun a i y => z a i (by omega)), F.fb g hx (fun a i y => z a i (by omega)), Bq.fb g hx (fun a i y => z a i (by omega)), I.fb g hx (fun a i y => z a i (by omega)), Qq.fb g hx (fun a i y => z a i (by omega)), N.fb' g hx (fun a i y => z a i (by omega)), L.fa f (fun a i y => z a i (by omega))⟩
theorem EL.mono (E : EL h x (B + n) (C + w) tx si nm ar wr fl du cu es br tm) : EL h x B C tx si nm ar wr fl du cu es br tm :=
  E.fa (T := fun _ _ => False) ((Fa.rfl').mono (fun _ _ _ z => z) (Nat.zero_le _) (Nat.zero_le _)) (fun _ _ z => z.elim)
/-- a throw -/
theorem EL.thr {k : Nat} (E : EL h x (B + 20) (C + 20000) tx si nm ar wr fl du cu es br tm) : PZ h x B C (.inr k) tx si nm ar wr fl du cu es br tm (.inr (nx_ h)) (nw_ h k 0 6) := by
  obtain ⟨r1, r2⟩ := E.room
  have f : Fa (fun _ _ => False) 20 20000 h (nw_ h k 0 6) := (Fa.nw (by omega) (by omega)).mono (fun _ _ _ z => z) (by omega) (by omega)
  exact ⟨⟨nx_ h, rfl, by rw [z_kd_nw, if_pos rfl]⟩, f.fb.mono (fun _ _ _ z => z.elim), E.fa f (fun _ _ z => z.elim)⟩
/-- nothing happened -/
theorem EL.ret {u : Value} (E : EL h x (B + 20) (C + 20000) tx si nm ar wr fl du cu es br tm) : PZ h x B C (.inl u) tx si nm ar wr fl du cu es br tm (.inl u) h :=
  ⟨rfl, Fb.rfl', E.mono⟩
def typB (w : Int64) (n : Nat) : List Nat := (List.range n).map (fun k => by64 w k)
theorem typB_succ {w : Int64} {n : Nat} : typB w (n + 1) = typB w n ++ [by64 w n] := by unfold typB; rw [List.range_succ, List.map_append]; rfl
def tyOk (n : Int32) (tx : List Nat) : Prop := ¬ n < Int32.ofNat 1 ∧ ¬ Int32.ofNat 8 < n ∧ tx.length + n.toNatClampNeg ≤ 200
def tyD (n : Int32) (tx : List Nat) : Decidable (tyOk n tx) := inferInstanceAs (Decidable (_ ∧ _ ∧ _))
theorem EL_type {w : Int64} {n : Int32} (E : EL h x (B + 20) (C + 20000) tx si nm ar wr fl du cu es br tm) : Wp 140 0 [.ref x, .long w, .null, .int n, .null] [] h (@ite _ (tyOk n tx) (tyD n tx) (PZ h x B C (.inl (.int (Int32.ofNat 1))) (tx ++ typB w n.toNatClampNeg) si nm ar wr fl du cu es br tm) (PZ h x B C (.inl (.int (Int32.ofNat 0))) tx si nm ar wr fl du cu es br tm)) := by
  have E' := E
  have hx := E.nx
  obtain ⟨t1, t2, a1, a2, d, sA, fs, pl, pr, sr, nA, H, Tt, R, P, F, Bq, I, Qq, N, L⟩ := E
  have r1 := Tt.2.1
  have hl := r1.2.2.2.2.2.1
  have H' := H
  obtain ⟨k1, ⟨g0, g1, g2, g3, g4⟩, -⟩ := H
  by_cases c1 : n < Int32.ofNat 1
  · rw [if_neg (fun z => z.1 c1)]
    simp (disch := omega) only [U140_0, U140_1, U140_2, U140_5, U140_6, U140_8, U140_11, U140_12, U140_13, U140_16, U140_19, U140_22, U140_23, U140_24, U140_25, U140_29, U140_30, U140_33, U140_34, U140_37, U140_38, U140_40, U140_42, U140_43, U140_44, U140_45, U140_48, U140_51, U140_54, U140_55, c1, i_add, i_mul, i_sub, i_addn, i_lt, i_eq, i_idx, i_vp, true_and, and_true, false_and, and_false, if_true, if_false, Nat.reduceAdd, Nat.reduceMul, Nat.reduceSub, Nat.reduceEqDiff, Option.some.injEq, exists_eq_left', true_or, or_true, false_or, or_false, not_true_eq_false, not_false_eq_true, eq_self, and_self, Nat.reduceLeDiff, decide_true, decide_false, ne_eq, Nat.left_eq_add, Nat.add_eq_left, Nat.add_left_cancel_iff, Nat.add_zero]
    exact E'.ret
  · have c0 : ¬ n < Int32.ofNat 0 := fun z => c1 (Int32.lt_trans z (by decide))
    obtain ⟨m, hm, rfl⟩ := i_nat c0
    rw [i_lt hm (by omega)] at c1
    have ei := i_idx hm
    by_cases c2 : 8 < m
    · rw [if_neg (fun z => z.2.1 (by rw [i_lt (by omega) hm]; exact c2))]
      simp (disch := omega) only [U140_0, U140_1, U140_2, U140_5, U140_6, U140_8, U140_11, U140_12, U140_13, U140_16, U140_19, U140_22, U140_23, U140_24, U140_25, U140_29, U140_30, U140_33, U140_34, U140_37, U140_38, U140_40, U140_42, U140_43, U140_44, U140_45, U140_48, U140_51, U140_54, U140_55, c1, c2, i_add, i_mul, i_sub, i_addn, i_lt, i_eq, i_idx, i_vp, true_and, and_true, false_and, and_false, if_true, if_false, Nat.reduceAdd, Nat.reduceMul, Nat.reduceSub, Nat.reduceEqDiff, Option.some.injEq, exists_eq_left', true_or, or_true, false_or, or_false, not_true_eq_false, not_false_eq_true, eq_self, and_self, Nat.reduceLeDiff, decide_true, decide_false, ne_eq, Nat.left_eq_add, Nat.add_eq_left, Nat.add_left_cancel_iff, Nat.add_zero]
      exact E'.ret
    · by_cases c3 : 200 - tx.length < m
      · rw [if_neg (fun z => by have := z.2.2; rw [ei] at this; omega)]
        simp (disch := omega) only [U140_0, U140_1, U140_2, U140_5, U140_6, U140_8, U140_11, U140_12, U140_13, U140_16, U140_19, U140_22, U140_23, U140_24, U140_25, U140_29, U140_30, U140_33, U140_34, U140_37, U140_38, U140_40, U140_42, U140_43, U140_44, U140_45, U140_48, U140_51, U140_54, U140_55, c1, c2, c3, k1, g0, r1.1, Row_room r1, V98, i_add, i_mul, i_sub, i_addn, i_lt, i_eq, i_idx, i_vp, true_and, and_true, false_and, and_false, if_true, if_false, Nat.reduceAdd, Nat.reduceMul, Nat.reduceSub, Nat.reduceEqDiff, Option.some.injEq, exists_eq_left', true_or, or_true, false_or, or_false, not_true_eq_false, not_false_eq_true, eq_self, and_self, Nat.reduceLeDiff, decide_true, decide_false, ne_eq, Nat.left_eq_add, Nat.add_eq_left, Nat.add_left_cancel_iff, Nat.add_zero]
        exact E'.ret
      · rw [if_pos ⟨by rw [i_lt hm (by omega)]; exact c1, by rw [i_lt (by omega) hm]; exact c2, by rw [ei]; omega⟩, ei]
        have key : ∀ j k h1, k + j = m → Fz (SR t1) h h1 → Rw h1 t1 200 (tx ++ typB w k) → Wp 140 27 [.ref x, .long w, .null, .int (Int32.ofNat m), .int (Int32.ofNat k)] [] h1 (PZ h x B C (.inl (.int (Int32.ofNat 1))) (tx ++ typB w m) si nm ar wr fl du cu es br tm) := by
          intro j
          induction j with
          | zero =>
            intro k h1 hk f1 r2
            rw [U140_27]
            simp (disch := omega) only [U140_0, U140_1, U140_2, U140_5, U140_6, U140_8, U140_11, U140_12, U140_13, U140_16, U140_19, U140_22, U140_23, U140_24, U140_25, U140_29, U140_30, U140_33, U140_34, U140_37, U140_38, U140_40, U140_42, U140_43, U140_44, U140_45, U140_48, U140_51, U140_54, U140_55, show ¬ k < m by omega, i_add, i_mul, i_sub, i_addn, i_lt, i_eq, i_idx, i_vp, true_and, and_true, false_and, and_false, if_true, if_false, Nat.reduceAdd, Nat.reduceMul, Nat.reduceSub, Nat.reduceEqDiff, Option.some.injEq, exists_eq_left', true_or, or_true, false_or, or_false, not_true_eq_false, not_false_eq_true, eq_self, and_self, Nat.reduceLeDiff, decide_true, decide_false, ne_eq, Nat.left_eq_add, Nat.add_eq_left, Nat.add_left_cancel_iff, Nat.add_zero]
            obtain rfl : k = m := by omega
            have tz := Tt.1
            have f2 : Fa (fun a _ => x + 1 ≤ a ∧ a < x + 5) 20 20000 h h1 := (f1.mono (fun a i z => by unfold SR at z; omega)).fa.mono (fun _ _ _ z => z) (Nat.zero_le _) (Nat.zero_le _)
            have g := f2.fb
            refine ⟨rfl, f2.fb.mono (fun a i _ z => Or.inl (by omega)), t1, t2, a1, a2, d, sA, fs, pl, pr, sr, nA, H'.fb g hx (by intro a i z w; omega), ⟨tz, r2, ?_⟩, R.fb g hx (by intro a i z w; omega), P.fb g hx (by intro a i z w; omega), F.fb g hx (by intro a i z w; omega), Bq.fb g hx (by intro a i z w; omega), I.fb g hx (by intro a i z w; omega), Qq.fb g hx (by intro a i z w; omega), N.fb' g hx (by intro a i z w; omega), L.fa f2 (by intro a i z w; omega)⟩
            obtain ⟨l2, r3⟩ := Tt.2.2
            exact ⟨l2, r3.fz f1 (by unfold SR; intro a i z w; omega)⟩
          | succ j ih =>
            intro k h1 hk f1 r2
            have hl2 : (tx ++ typB w k).length < 200 := by rw [List.length_append]; unfold typB; rw [List.length_map, List.length_range]; omega
            rw [U140_27]
            simp (disch := omega) only [U140_0, U140_1, U140_2, U140_5, U140_6, U140_8, U140_11, U140_12, U140_13, U140_16, U140_19, U140_22, U140_23, U140_24, U140_25, U140_29, U140_30, U140_33, U140_34, U140_37, U140_38, U140_40, U140_42, U140_43, U140_44, U140_45, U140_48, U140_51, U140_54, U140_55, show k < m by omega, f1.kd, f1.gP, k1, g0, r1.1, i_add, i_mul, i_sub, i_addn, i_lt, i_eq, i_idx, i_vp, true_and, and_true, false_and, and_false, if_true, if_false, Nat.reduceAdd, Nat.reduceMul, Nat.reduceSub, Nat.reduceEqDiff, Option.some.injEq, exists_eq_left', true_or, or_true, false_or, or_false, not_true_eq_false, not_false_eq_true, eq_self, and_self, Nat.reduceLeDiff, decide_true, decide_false, ne_eq, Nat.left_eq_add, Nat.add_eq_left, Nat.add_left_cancel_iff, Nat.add_zero]
            refine Wp_use (Row_put r2 hl2) ?_
            rintro _ h2 ⟨rfl, r3, f2⟩
            simp (disch := omega) only [V93, U140_0, U140_1, U140_2, U140_5, U140_6, U140_8, U140_11, U140_12, U140_13, U140_16, U140_19, U140_22, U140_23, U140_24, U140_25, U140_29, U140_30, U140_33, U140_34, U140_37, U140_38, U140_40, U140_42, U140_43, U140_44, U140_45, U140_48, U140_51, U140_54, U140_55, i_add, i_mul, i_sub, i_addn, i_lt, i_eq, i_idx, i_vp, true_and, and_true, false_and, and_false, if_true, if_false, Nat.reduceAdd, Nat.reduceMul, Nat.reduceSub, Nat.reduceEqDiff, Option.some.injEq, exists_eq_left', true_or, or_true, false_or, or_false, not_true_eq_false, not_false_eq_true, eq_self, and_self, Nat.reduceLeDiff, decide_true, decide_false, ne_eq, Nat.left_eq_add, Nat.add_eq_left, Nat.add_left_cancel_iff, Nat.add_zero]
            rw [lo8_ushr w (by omega), List.append_assoc, ← typB_succ] at r3
            exact ih (k + 1) h2 (by omega) (f1.trans f2) r3
        simp (disch := omega) only [U140_0, U140_1, U140_2, U140_5, U140_6, U140_8, U140_11, U140_12, U140_13, U140_16, U140_19, U140_22, U140_23, U140_24, U140_25, U140_29, U140_30, U140_33, U140_34, U140_37, U140_38, U140_40, U140_42, U140_43, U140_44, U140_45, U140_48, U140_51, U140_54, U140_55, c1, c2, c3, k1, g0, r1.1, Row_room r1, V98, i_add, i_mul, i_sub, i_addn, i_lt, i_eq, i_idx, i_vp, true_and, and_true, false_and, and_false, if_true, if_false, Nat.reduceAdd, Nat.reduceMul, Nat.reduceSub, Nat.reduceEqDiff, Option.some.injEq, exists_eq_left', true_or, or_true, false_or, or_false, not_true_eq_false, not_false_eq_true, eq_self, and_self, Nat.reduceLeDiff, decide_true, decide_false, ne_eq, Nat.left_eq_add, Nat.add_eq_left, Nat.add_left_cancel_iff, Nat.add_zero]
        exact key m 0 h (by omega) Fz.rfl' (by rw [show typB w 0 = [] from rfl, List.append_nil]; exact r1)
end
